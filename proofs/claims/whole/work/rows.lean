section
-- ===== PART A: goes FIRST, ahead of the names: the tables' words, and 'selects' of the private methods out of them =====
/-- a private method of a class that the tables say can be made, by its rows of tables_1 -/
def lw_okq (q : MethodName × Nat) : Prop := (q.1.cls ≠ "java/lang/invoke/MethodHandle" ∧ q.1.cls ≠ "java/lang/invoke/VarHandle") ∧ Cond.instantiable q.1.cls q.2 ∈ tables_1 ∧ Cond.privateMethod q.1 ∈ tables_1 ∧ Cond.instanceMethod q.1 ∈ tables_1
theorem lw_p0 : lw_okq (⟨"RiverRoad", "found", "(I)I"⟩, 7) := ⟨⟨by decide +kernel, by decide +kernel⟩, List.mem_of_getElem? (i := 19) (by decide +kernel), List.mem_of_getElem? (i := 83) (by decide +kernel), List.mem_of_getElem? (i := 84) (by decide +kernel)⟩
theorem lw_p1 : lw_okq (⟨"RiverRoad", "settled", "(I)I"⟩, 7) := ⟨⟨by decide +kernel, by decide +kernel⟩, List.mem_of_getElem? (i := 19) (by decide +kernel), List.mem_of_getElem? (i := 102) (by decide +kernel), List.mem_of_getElem? (i := 103) (by decide +kernel)⟩
theorem lw_p2 : lw_okq (⟨"RiverRoad", "shelve", "(ILRiverRoad$Thing;)I"⟩, 7) := ⟨⟨by decide +kernel, by decide +kernel⟩, List.mem_of_getElem? (i := 19) (by decide +kernel), List.mem_of_getElem? (i := 215) (by decide +kernel), List.mem_of_getElem? (i := 216) (by decide +kernel)⟩
theorem lw_p3 : lw_okq (⟨"RiverRoad", "notThat", "(I)I"⟩, 7) := ⟨⟨by decide +kernel, by decide +kernel⟩, List.mem_of_getElem? (i := 19) (by decide +kernel), List.mem_of_getElem? (i := 250) (by decide +kernel), List.mem_of_getElem? (i := 251) (by decide +kernel)⟩
theorem lw_p4 : lw_okq (⟨"RiverRoad", "endingsOf", "(II)I"⟩, 7) := ⟨⟨by decide +kernel, by decide +kernel⟩, List.mem_of_getElem? (i := 19) (by decide +kernel), List.mem_of_getElem? (i := 377) (by decide +kernel), List.mem_of_getElem? (i := 378) (by decide +kernel)⟩
theorem lw_p5 : lw_okq (⟨"RiverRoad", "plusOfRank", "(II)J"⟩, 7) := ⟨⟨by decide +kernel, by decide +kernel⟩, List.mem_of_getElem? (i := 19) (by decide +kernel), List.mem_of_getElem? (i := 381) (by decide +kernel), List.mem_of_getElem? (i := 382) (by decide +kernel)⟩
theorem lw_p6 : lw_okq (⟨"RiverRoad", "rankOf", "(LRiverRoad$Arches;)I"⟩, 7) := ⟨⟨by decide +kernel, by decide +kernel⟩, List.mem_of_getElem? (i := 19) (by decide +kernel), List.mem_of_getElem? (i := 537) (by decide +kernel), List.mem_of_getElem? (i := 538) (by decide +kernel)⟩
theorem lw_p7 : lw_okq (⟨"RiverRoad", "seekNthFold", "(II)Z"⟩, 7) := ⟨⟨by decide +kernel, by decide +kernel⟩, List.mem_of_getElem? (i := 19) (by decide +kernel), List.mem_of_getElem? (i := 593) (by decide +kernel), List.mem_of_getElem? (i := 594) (by decide +kernel)⟩
theorem lw_p8 : lw_okq (⟨"RiverRoad", "seekFold", "(III)I"⟩, 7) := ⟨⟨by decide +kernel, by decide +kernel⟩, List.mem_of_getElem? (i := 19) (by decide +kernel), List.mem_of_getElem? (i := 597) (by decide +kernel), List.mem_of_getElem? (i := 598) (by decide +kernel)⟩
theorem lw_p9 : lw_okq (⟨"RiverRoad", "fits", "(III)Z"⟩, 7) := ⟨⟨by decide +kernel, by decide +kernel⟩, List.mem_of_getElem? (i := 19) (by decide +kernel), List.mem_of_getElem? (i := 601) (by decide +kernel), List.mem_of_getElem? (i := 602) (by decide +kernel)⟩
theorem lw_p10 : lw_okq (⟨"RiverRoad", "closes", "(IIII)Z"⟩, 7) := ⟨⟨by decide +kernel, by decide +kernel⟩, List.mem_of_getElem? (i := 19) (by decide +kernel), List.mem_of_getElem? (i := 605) (by decide +kernel), List.mem_of_getElem? (i := 606) (by decide +kernel)⟩
theorem lw_p11 : lw_okq (⟨"RiverRoadModel", "finds", "(I)I"⟩, 34) := ⟨⟨by decide +kernel, by decide +kernel⟩, List.mem_of_getElem? (i := 626) (by decide +kernel), List.mem_of_getElem? (i := 748) (by decide +kernel), List.mem_of_getElem? (i := 749) (by decide +kernel)⟩
theorem lw_p12 : lw_okq (⟨"RiverRoadModel", "well", "(I)I"⟩, 34) := ⟨⟨by decide +kernel, by decide +kernel⟩, List.mem_of_getElem? (i := 626) (by decide +kernel), List.mem_of_getElem? (i := 753) (by decide +kernel), List.mem_of_getElem? (i := 754) (by decide +kernel)⟩
theorem lw_p13 : lw_okq (⟨"RiverRoadModel", "keep", "(II)I"⟩, 34) := ⟨⟨by decide +kernel, by decide +kernel⟩, List.mem_of_getElem? (i := 626) (by decide +kernel), List.mem_of_getElem? (i := 778) (by decide +kernel), List.mem_of_getElem? (i := 779) (by decide +kernel)⟩
theorem lw_p14 : lw_okq (⟨"RiverRoadModel", "rowKind", "()I"⟩, 34) := ⟨⟨by decide +kernel, by decide +kernel⟩, List.mem_of_getElem? (i := 626) (by decide +kernel), List.mem_of_getElem? (i := 782) (by decide +kernel), List.mem_of_getElem? (i := 783) (by decide +kernel)⟩
theorem lw_p15 : lw_okq (⟨"RiverRoadModel", "joins", "([I[III)Z"⟩, 34) := ⟨⟨by decide +kernel, by decide +kernel⟩, List.mem_of_getElem? (i := 626) (by decide +kernel), List.mem_of_getElem? (i := 786) (by decide +kernel), List.mem_of_getElem? (i := 787) (by decide +kernel)⟩
def lw_privs_1 : List (MethodName × Nat) := [(⟨"RiverRoad", "found", "(I)I"⟩, 7), (⟨"RiverRoad", "settled", "(I)I"⟩, 7), (⟨"RiverRoad", "shelve", "(ILRiverRoad$Thing;)I"⟩, 7), (⟨"RiverRoad", "notThat", "(I)I"⟩, 7), (⟨"RiverRoad", "endingsOf", "(II)I"⟩, 7), (⟨"RiverRoad", "plusOfRank", "(II)J"⟩, 7), (⟨"RiverRoad", "rankOf", "(LRiverRoad$Arches;)I"⟩, 7), (⟨"RiverRoad", "seekNthFold", "(II)Z"⟩, 7), (⟨"RiverRoad", "seekFold", "(III)I"⟩, 7), (⟨"RiverRoad", "fits", "(III)Z"⟩, 7), (⟨"RiverRoad", "closes", "(IIII)Z"⟩, 7), (⟨"RiverRoadModel", "finds", "(I)I"⟩, 34), (⟨"RiverRoadModel", "well", "(I)I"⟩, 34), (⟨"RiverRoadModel", "keep", "(II)I"⟩, 34), (⟨"RiverRoadModel", "rowKind", "()I"⟩, 34), (⟨"RiverRoadModel", "joins", "([I[III)Z"⟩, 34)]
theorem lw_r1 : ∀ q ∈ lw_privs_1, lw_okq q := List.forall_mem_cons.mpr ⟨lw_p0, List.forall_mem_cons.mpr ⟨lw_p1, List.forall_mem_cons.mpr ⟨lw_p2, List.forall_mem_cons.mpr ⟨lw_p3, List.forall_mem_cons.mpr ⟨lw_p4, List.forall_mem_cons.mpr ⟨lw_p5, List.forall_mem_cons.mpr ⟨lw_p6, List.forall_mem_cons.mpr ⟨lw_p7, List.forall_mem_cons.mpr ⟨lw_p8, List.forall_mem_cons.mpr ⟨lw_p9, List.forall_mem_cons.mpr ⟨lw_p10, List.forall_mem_cons.mpr ⟨lw_p11, List.forall_mem_cons.mpr ⟨lw_p12, List.forall_mem_cons.mpr ⟨lw_p13, List.forall_mem_cons.mpr ⟨lw_p14, List.forall_mem_cons.mpr ⟨lw_p15, fun _ h => absurd h List.not_mem_nil⟩⟩⟩⟩⟩⟩⟩⟩⟩⟩⟩⟩⟩⟩⟩⟩
theorem lw_p16 : lw_okq (⟨"RiverRoadModel", "landLoops", "(I)I"⟩, 34) := ⟨⟨by decide +kernel, by decide +kernel⟩, List.mem_of_getElem? (i := 626) (by decide +kernel), List.mem_of_getElem? (i := 790) (by decide +kernel), List.mem_of_getElem? (i := 791) (by decide +kernel)⟩
theorem lw_p17 : lw_okq (⟨"RiverRoadModel", "findLoops", "([II[III)I"⟩, 34) := ⟨⟨by decide +kernel, by decide +kernel⟩, List.mem_of_getElem? (i := 626) (by decide +kernel), List.mem_of_getElem? (i := 794) (by decide +kernel), List.mem_of_getElem? (i := 795) (by decide +kernel)⟩
theorem lw_p18 : lw_okq (⟨"RiverRoadModel", "isFolding", "([III)Z"⟩, 34) := ⟨⟨by decide +kernel, by decide +kernel⟩, List.mem_of_getElem? (i := 626) (by decide +kernel), List.mem_of_getElem? (i := 798) (by decide +kernel), List.mem_of_getElem? (i := 799) (by decide +kernel)⟩
theorem lw_p19 : lw_okq (⟨"RiverRoadModel", "copyThing", "(II)V"⟩, 34) := ⟨⟨by decide +kernel, by decide +kernel⟩, List.mem_of_getElem? (i := 626) (by decide +kernel), List.mem_of_getElem? (i := 803) (by decide +kernel), List.mem_of_getElem? (i := 804) (by decide +kernel)⟩
theorem lw_p20 : lw_okq (⟨"RiverRoadModel", "refusal", "(II)I"⟩, 34) := ⟨⟨by decide +kernel, by decide +kernel⟩, List.mem_of_getElem? (i := 626) (by decide +kernel), List.mem_of_getElem? (i := 811) (by decide +kernel), List.mem_of_getElem? (i := 812) (by decide +kernel)⟩
theorem lw_p21 : lw_okq (⟨"RiverRoadModel", "tell", "([IIII)Z"⟩, 34) := ⟨⟨by decide +kernel, by decide +kernel⟩, List.mem_of_getElem? (i := 626) (by decide +kernel), List.mem_of_getElem? (i := 827) (by decide +kernel), List.mem_of_getElem? (i := 828) (by decide +kernel)⟩
theorem lw_p22 : lw_okq (⟨"RiverRoadModel", "endsOf", "(II)I"⟩, 34) := ⟨⟨by decide +kernel, by decide +kernel⟩, List.mem_of_getElem? (i := 626) (by decide +kernel), List.mem_of_getElem? (i := 831) (by decide +kernel), List.mem_of_getElem? (i := 832) (by decide +kernel)⟩
theorem lw_p23 : lw_okq (⟨"RiverRoadModel", "turnTo", "([II[III)V"⟩, 34) := ⟨⟨by decide +kernel, by decide +kernel⟩, List.mem_of_getElem? (i := 626) (by decide +kernel), List.mem_of_getElem? (i := 839) (by decide +kernel), List.mem_of_getElem? (i := 840) (by decide +kernel)⟩
theorem lw_p24 : lw_okq (⟨"RiverRoadModel", "mirrorTo", "([II[III)V"⟩, 34) := ⟨⟨by decide +kernel, by decide +kernel⟩, List.mem_of_getElem? (i := 626) (by decide +kernel), List.mem_of_getElem? (i := 847) (by decide +kernel), List.mem_of_getElem? (i := 848) (by decide +kernel)⟩
theorem lw_p25 : lw_okq (⟨"RiverRoadModel", "sizeOf", "(I)I"⟩, 34) := ⟨⟨by decide +kernel, by decide +kernel⟩, List.mem_of_getElem? (i := 626) (by decide +kernel), List.mem_of_getElem? (i := 872) (by decide +kernel), List.mem_of_getElem? (i := 873) (by decide +kernel)⟩
theorem lw_p26 : lw_okq (⟨"RiverRoadModel", "begins", "(I)V"⟩, 34) := ⟨⟨by decide +kernel, by decide +kernel⟩, List.mem_of_getElem? (i := 626) (by decide +kernel), List.mem_of_getElem? (i := 876) (by decide +kernel), List.mem_of_getElem? (i := 877) (by decide +kernel)⟩
theorem lw_p27 : lw_okq (⟨"RiverRoadModel", "worth", "(I)I"⟩, 34) := ⟨⟨by decide +kernel, by decide +kernel⟩, List.mem_of_getElem? (i := 626) (by decide +kernel), List.mem_of_getElem? (i := 880) (by decide +kernel), List.mem_of_getElem? (i := 881) (by decide +kernel)⟩
theorem lw_p28 : lw_okq (⟨"RiverRoadModel", "mark", "(I)I"⟩, 34) := ⟨⟨by decide +kernel, by decide +kernel⟩, List.mem_of_getElem? (i := 626) (by decide +kernel), List.mem_of_getElem? (i := 884) (by decide +kernel), List.mem_of_getElem? (i := 885) (by decide +kernel)⟩
theorem lw_p29 : lw_okq (⟨"RiverRoadModel", "rankOf", "([III)I"⟩, 34) := ⟨⟨by decide +kernel, by decide +kernel⟩, List.mem_of_getElem? (i := 626) (by decide +kernel), List.mem_of_getElem? (i := 905) (by decide +kernel), List.mem_of_getElem? (i := 906) (by decide +kernel)⟩
theorem lw_p30 : lw_okq (⟨"RiverRoadModel", "countLands", "(I)V"⟩, 34) := ⟨⟨by decide +kernel, by decide +kernel⟩, List.mem_of_getElem? (i := 626) (by decide +kernel), List.mem_of_getElem? (i := 922) (by decide +kernel), List.mem_of_getElem? (i := 923) (by decide +kernel)⟩
theorem lw_p31 : lw_okq (⟨"RiverRoadModel", "tellAll", "(I)I"⟩, 34) := ⟨⟨by decide +kernel, by decide +kernel⟩, List.mem_of_getElem? (i := 626) (by decide +kernel), List.mem_of_getElem? (i := 926) (by decide +kernel), List.mem_of_getElem? (i := 927) (by decide +kernel)⟩
def lw_privs_2 : List (MethodName × Nat) := [(⟨"RiverRoadModel", "landLoops", "(I)I"⟩, 34), (⟨"RiverRoadModel", "findLoops", "([II[III)I"⟩, 34), (⟨"RiverRoadModel", "isFolding", "([III)Z"⟩, 34), (⟨"RiverRoadModel", "copyThing", "(II)V"⟩, 34), (⟨"RiverRoadModel", "refusal", "(II)I"⟩, 34), (⟨"RiverRoadModel", "tell", "([IIII)Z"⟩, 34), (⟨"RiverRoadModel", "endsOf", "(II)I"⟩, 34), (⟨"RiverRoadModel", "turnTo", "([II[III)V"⟩, 34), (⟨"RiverRoadModel", "mirrorTo", "([II[III)V"⟩, 34), (⟨"RiverRoadModel", "sizeOf", "(I)I"⟩, 34), (⟨"RiverRoadModel", "begins", "(I)V"⟩, 34), (⟨"RiverRoadModel", "worth", "(I)I"⟩, 34), (⟨"RiverRoadModel", "mark", "(I)I"⟩, 34), (⟨"RiverRoadModel", "rankOf", "([III)I"⟩, 34), (⟨"RiverRoadModel", "countLands", "(I)V"⟩, 34), (⟨"RiverRoadModel", "tellAll", "(I)I"⟩, 34)]
theorem lw_r2 : ∀ q ∈ lw_privs_2, lw_okq q := List.forall_mem_cons.mpr ⟨lw_p16, List.forall_mem_cons.mpr ⟨lw_p17, List.forall_mem_cons.mpr ⟨lw_p18, List.forall_mem_cons.mpr ⟨lw_p19, List.forall_mem_cons.mpr ⟨lw_p20, List.forall_mem_cons.mpr ⟨lw_p21, List.forall_mem_cons.mpr ⟨lw_p22, List.forall_mem_cons.mpr ⟨lw_p23, List.forall_mem_cons.mpr ⟨lw_p24, List.forall_mem_cons.mpr ⟨lw_p25, List.forall_mem_cons.mpr ⟨lw_p26, List.forall_mem_cons.mpr ⟨lw_p27, List.forall_mem_cons.mpr ⟨lw_p28, List.forall_mem_cons.mpr ⟨lw_p29, List.forall_mem_cons.mpr ⟨lw_p30, List.forall_mem_cons.mpr ⟨lw_p31, fun _ h => absurd h List.not_mem_nil⟩⟩⟩⟩⟩⟩⟩⟩⟩⟩⟩⟩⟩⟩⟩⟩
theorem lw_p32 : lw_okq (⟨"RiverRoadModel", "goThrough", "(II)I"⟩, 34) := ⟨⟨by decide +kernel, by decide +kernel⟩, List.mem_of_getElem? (i := 626) (by decide +kernel), List.mem_of_getElem? (i := 953) (by decide +kernel), List.mem_of_getElem? (i := 954) (by decide +kernel)⟩
theorem lw_p33 : lw_okq (⟨"RiverRoadModel", "nextOrder", "(I)Z"⟩, 34) := ⟨⟨by decide +kernel, by decide +kernel⟩, List.mem_of_getElem? (i := 626) (by decide +kernel), List.mem_of_getElem? (i := 957) (by decide +kernel), List.mem_of_getElem? (i := 958) (by decide +kernel)⟩
def lw_privs_3 : List (MethodName × Nat) := [(⟨"RiverRoadModel", "goThrough", "(II)I"⟩, 34), (⟨"RiverRoadModel", "nextOrder", "(I)Z"⟩, 34)]
theorem lw_r3 : ∀ q ∈ lw_privs_3, lw_okq q := List.forall_mem_cons.mpr ⟨lw_p32, List.forall_mem_cons.mpr ⟨lw_p33, fun _ h => absurd h List.not_mem_nil⟩⟩
def lw_privs : List (MethodName × Nat) := lw_privs_1 ++ (lw_privs_2 ++ (lw_privs_3))
def lw_tbl : List Cond := k2_sels lw_privs ++ tables_1
theorem lw_privs_ok : ∀ q ∈ lw_privs, lw_okq q := by
  show ∀ q ∈ lw_privs_1 ++ (lw_privs_2 ++ (lw_privs_3)), lw_okq q
  exact List.forall_mem_append.mpr ⟨lw_r1, List.forall_mem_append.mpr ⟨lw_r2, lw_r3⟩⟩
/-! fields of the classes, in an order of ours: n is the first of every THING, plus the second of every ROW, partner the third of all ARCHES -/
def F_RR : u_T := fun k => match k with
  | 0 => ("RiverRoad", "sheets", "[LRiverRoad$Sheet;", true)
  | 1 => ("RiverRoad", "shelf", "[LRiverRoad$Thing;", true)
  | 2 => ("RiverRoad", "bodies", "LRiverRoad$Trace;", true)
  | 3 => ("RiverRoad", "endings", "[I", true)
  | 4 => ("RiverRoad", "foldStamps", "[I", true)
  | 5 => ("RiverRoad", "foldPlaces", "[I", true)
  | _ => ("RiverRoad", "latestFinding", "I", false)
def t_RR : Nat → FieldType := fun k => match k with
  | 0 => .array (.object "RiverRoad$Sheet")
  | 1 => .array (.object "RiverRoad$Thing")
  | 2 => .object "RiverRoad$Trace"
  | 3 => .array .int
  | 4 => .array .int
  | 5 => .array .int
  | _ => .int
def F_Tr : u_T := fun k => match k with
  | 0 => ("RiverRoad$Trace", "numbers", "[I", true)
  | _ => ("RiverRoad$Trace", "length", "I", false)
def t_Tr : Nat → FieldType := fun k => match k with
  | 0 => .array .int
  | _ => .int
def F_Sh : u_T := fun k => match k with
  | 0 => ("RiverRoad$Sheet", "lane", "I", true)
  | _ => ("RiverRoad$Sheet", "items", "[I", true)
def t_Sh : Nat → FieldType := fun k => match k with
  | 0 => .int
  | _ => .array .int
def F_Row : u_T := fun k => match k with
  | 0 => ("RiverRoad$Thing", "n", "I", true)
  | _ => ("RiverRoad$Row", "plus", "J", true)
def t_Row : Nat → FieldType := fun k => match k with
  | 0 => .int
  | _ => .long
def F_Ar : u_T := fun k => match k with
  | 0 => ("RiverRoad$Thing", "n", "I", true)
  | 1 => ("RiverRoad$Row", "plus", "J", true)
  | _ => ("RiverRoad$Arches", "partner", "[I", true)
def t_Ar : Nat → FieldType := fun k => match k with
  | 0 => .int
  | 1 => .long
  | _ => .array .int
def F_La : u_T := fun k => match k with
  | 0 => ("RiverRoad$Thing", "n", "I", true)
  | 1 => ("RiverRoad$Land", "over", "LRiverRoad$Arches;", true)
  | 2 => ("RiverRoad$Land", "under", "LRiverRoad$Arches;", true)
  | 3 => ("RiverRoad$Land", "loopOf", "[I", true)
  | _ => ("RiverRoad$Land", "loopCount", "I", true)
def t_La : Nat → FieldType := fun k => match k with
  | 0 => .int
  | 1 => .object "RiverRoad$Arches"
  | 2 => .object "RiverRoad$Arches"
  | 3 => .array .int
  | _ => .int
def F_St : u_T := fun k => match k with
  | 0 => ("RiverRoad$Thing", "n", "I", true)
  | 1 => ("RiverRoad$Strip", "stamps", "[I", true)
  | 2 => ("RiverRoad$Strip", "placeOf", "[I", true)
  | 3 => ("RiverRoad$Strip", "clashFirst", "I", true)
  | _ => ("RiverRoad$Strip", "clashSecond", "I", true)
def t_St : Nat → FieldType := fun k => match k with
  | 0 => .int
  | 1 => .array .int
  | 2 => .array .int
  | 3 => .int
  | _ => .int
def F_Mo : u_T := fun k => match k with
  | 0 => ("RiverRoadModel", "lane", "[I", true)
  | 1 => ("RiverRoadModel", "size", "[I", true)
  | 2 => ("RiverRoadModel", "item", "[I", true)
  | 3 => ("RiverRoadModel", "moving", "[I", true)
  | 4 => ("RiverRoadModel", "kinds", "[I", true)
  | 5 => ("RiverRoadModel", "many", "[I", true)
  | 6 => ("RiverRoadModel", "one", "[I", true)
  | 7 => ("RiverRoadModel", "two", "[I", true)
  | 8 => ("RiverRoadModel", "over", "[I", true)
  | 9 => ("RiverRoadModel", "under", "[I", true)
  | 10 => ("RiverRoadModel", "status", "I", false)
  | 11 => ("RiverRoadModel", "trace", "[I", true)
  | 12 => ("RiverRoadModel", "traced", "I", false)
  | 13 => ("RiverRoadModel", "open", "[I", true)
  | 14 => ("RiverRoadModel", "loopOf", "[I", true)
  | 15 => ("RiverRoadModel", "stands", "[I", true)
  | 16 => ("RiverRoadModel", "clashOne", "I", false)
  | 17 => ("RiverRoadModel", "clashTwo", "I", false)
  | 18 => ("RiverRoadModel", "met", "[Z", true)
  | 19 => ("RiverRoadModel", "ends", "[I", true)
  | 20 => ("RiverRoadModel", "isCounted", "Z", false)
  | 21 => ("RiverRoadModel", "allSigns", "[I", true)
  | 22 => ("RiverRoadModel", "allJoined", "[I", true)
  | 23 => ("RiverRoadModel", "allOf", "I", false)
  | 24 => ("RiverRoadModel", "landCount", "[I", true)
  | 25 => ("RiverRoadModel", "isLandCounted", "[Z", true)
  | 26 => ("RiverRoadModel", "unlikes", "[I", true)
  | 27 => ("RiverRoadModel", "foldCount", "[I", true)
  | 28 => ("RiverRoadModel", "open2", "[I", true)
  | 29 => ("RiverRoadModel", "isDone", "[Z", true)
  | 30 => ("RiverRoadModel", "turned", "[I", true)
  | 31 => ("RiverRoadModel", "mirrored", "[I", true)
  | 32 => ("RiverRoadModel", "toDo", "[I", true)
  | _ => ("RiverRoadModel", "order", "[I", true)
def t_Mo : Nat → FieldType := fun k => match k with
  | 0 => .array .int
  | 1 => .array .int
  | 2 => .array .int
  | 3 => .array .int
  | 4 => .array .int
  | 5 => .array .int
  | 6 => .array .int
  | 7 => .array .int
  | 8 => .array .int
  | 9 => .array .int
  | 10 => .int
  | 11 => .array .int
  | 12 => .int
  | 13 => .array .int
  | 14 => .array .int
  | 15 => .array .int
  | 16 => .int
  | 17 => .int
  | 18 => .array .boolean
  | 19 => .array .int
  | 20 => .boolean
  | 21 => .array .int
  | 22 => .array .int
  | 23 => .int
  | 24 => .array .int
  | 25 => .array .boolean
  | 26 => .array .int
  | 27 => .array .int
  | 28 => .array .int
  | 29 => .array .boolean
  | 30 => .array .int
  | 31 => .array .int
  | 32 => .array .int
  | _ => .array .int
abbrev classes : List vw_C := [("RiverRoad", F_RR, 7), ("RiverRoad$Trace", F_Tr, 2), ("RiverRoad$Sheet", F_Sh, 2), ("RiverRoad$Row", F_Row, 2), ("RiverRoad$Arches", F_Ar, 3), ("RiverRoad$Nest", F_Ar, 3), ("RiverRoad$Peaks", F_Ar, 3), ("RiverRoad$Land", F_La, 5), ("RiverRoad$Loop", F_La, 5), ("RiverRoad$Strip", F_St, 5), ("RiverRoad$Fold", F_St, 5), ("RiverRoadModel", F_Mo, 34)]
theorem n_RR : ∀ a, a < 7 → ∀ b, b < 7 → a ≠ b → (F_RR a).2.1 ≠ (F_RR b).2.1 := by decide +kernel
theorem t_RR_ok : ∀ k, k < 7 → parseFieldDescriptor (F_RR k).2.2.1 = some (t_RR k) := by decide +kernel
theorem n_Tr : ∀ a, a < 2 → ∀ b, b < 2 → a ≠ b → (F_Tr a).2.1 ≠ (F_Tr b).2.1 := by decide +kernel
theorem t_Tr_ok : ∀ k, k < 2 → parseFieldDescriptor (F_Tr k).2.2.1 = some (t_Tr k) := by decide +kernel
theorem n_Sh : ∀ a, a < 2 → ∀ b, b < 2 → a ≠ b → (F_Sh a).2.1 ≠ (F_Sh b).2.1 := by decide +kernel
theorem t_Sh_ok : ∀ k, k < 2 → parseFieldDescriptor (F_Sh k).2.2.1 = some (t_Sh k) := by decide +kernel
theorem n_Row : ∀ a, a < 2 → ∀ b, b < 2 → a ≠ b → (F_Row a).2.1 ≠ (F_Row b).2.1 := by decide +kernel
theorem t_Row_ok : ∀ k, k < 2 → parseFieldDescriptor (F_Row k).2.2.1 = some (t_Row k) := by decide +kernel
theorem n_Ar : ∀ a, a < 3 → ∀ b, b < 3 → a ≠ b → (F_Ar a).2.1 ≠ (F_Ar b).2.1 := by decide +kernel
theorem t_Ar_ok : ∀ k, k < 3 → parseFieldDescriptor (F_Ar k).2.2.1 = some (t_Ar k) := by decide +kernel
theorem n_La : ∀ a, a < 5 → ∀ b, b < 5 → a ≠ b → (F_La a).2.1 ≠ (F_La b).2.1 := by decide +kernel
theorem t_La_ok : ∀ k, k < 5 → parseFieldDescriptor (F_La k).2.2.1 = some (t_La k) := by decide +kernel
theorem n_St : ∀ a, a < 5 → ∀ b, b < 5 → a ≠ b → (F_St a).2.1 ≠ (F_St b).2.1 := by decide +kernel
theorem t_St_ok : ∀ k, k < 5 → parseFieldDescriptor (F_St k).2.2.1 = some (t_St k) := by decide +kernel
theorem n_Mo : ∀ a, a < 34 → ∀ b, b < 34 → a ≠ b → (F_Mo a).2.1 ≠ (F_Mo b).2.1 := by decide +kernel
theorem t_Mo_ok : ∀ k, k < 34 → parseFieldDescriptor (F_Mo k).2.2.1 = some (t_Mo k) := by decide +kernel
theorem i_RR : ∀ w ∈ u_ws "RiverRoad" F_RR 7, w ∈ lw_tbl := by decide +kernel
theorem i_Tr : ∀ w ∈ u_ws "RiverRoad$Trace" F_Tr 2, w ∈ lw_tbl := by decide +kernel
theorem i_Sh : ∀ w ∈ u_ws "RiverRoad$Sheet" F_Sh 2, w ∈ lw_tbl := by decide +kernel
theorem i_Row : ∀ w ∈ u_ws "RiverRoad$Row" F_Row 2, w ∈ lw_tbl := by decide +kernel
theorem i_Ar : ∀ w ∈ u_ws "RiverRoad$Arches" F_Ar 3, w ∈ lw_tbl := by decide +kernel
theorem i_Ne : ∀ w ∈ u_ws "RiverRoad$Nest" F_Ar 3, w ∈ lw_tbl := by decide +kernel
theorem i_Pe : ∀ w ∈ u_ws "RiverRoad$Peaks" F_Ar 3, w ∈ lw_tbl := by decide +kernel
theorem i_La : ∀ w ∈ u_ws "RiverRoad$Land" F_La 5, w ∈ lw_tbl := by decide +kernel
theorem i_Lo : ∀ w ∈ u_ws "RiverRoad$Loop" F_La 5, w ∈ lw_tbl := by decide +kernel
theorem i_St : ∀ w ∈ u_ws "RiverRoad$Strip" F_St 5, w ∈ lw_tbl := by decide +kernel
theorem i_Fo : ∀ w ∈ u_ws "RiverRoad$Fold" F_St 5, w ∈ lw_tbl := by decide +kernel
theorem i_Mo : ∀ w ∈ u_ws "RiverRoadModel" F_Mo 34, w ∈ lw_tbl := by decide +kernel
end
section
/-! VALUES, CELLS, WORLDS: numbers are Int, addresses count from the law's first new cell -/
abbrev MV : Type := Int ⊕ (Int ⊕ (Option Nat ⊕ Nat))
abbrev vI (z : Int) : MV := .inl z
abbrev vL (z : Int) : MV := .inr (.inl z)
abbrev vQ (o : Option Nat) : MV := .inr (.inr (.inl o))
abbrev vR (a : Nat) : MV := .inr (.inr (.inl (some a)))
abbrev vN : MV := .inr (.inr (.inl none))
abbrev vS (k : Nat) : MV := .inr (.inr (.inr k))
/-- tables' numbers, arrays' classes, the first new address, the static arrays' addresses -/
abbrev Ev : Type := va_G × (Nat → ClassId) × Nat × (Nat → Nat)
def eb (E : Ev) : Nat := E.2.2.1
def cq (E : Ev) (o : Option Nat) : Option Nat := o.map (fun a => eb E + a)
def cv (E : Ev) (v : MV) : Value := match v with
  | .inl z => .int (Int32.ofInt z)
  | .inr (.inl z) => .long (Int64.ofInt z)
  | .inr (.inr (.inl none)) => .null
  | .inr (.inr (.inl (some a))) => .ref (eb E + a)
  | .inr (.inr (.inr k)) => .ref (E.2.2.2 k)
def i32 (z : Int) : Prop := -2147483648 ≤ z ∧ z < 2147483648
def i64 (z : Int) : Prop := -9223372036854775808 ≤ z ∧ z < 9223372036854775808
def okV (v : MV) : Prop := match v with
  | .inl z => i32 z
  | .inr (.inl z) => i64 z
  | .inr (.inr _) => True
abbrev MC : Type := (Bool × Nat × Nat × (Nat → Int)) ⊕ ((Nat × Nat × (Nat → Option Nat)) ⊕ (Nat × List MV))
abbrev kA (t n : Nat) (f : Nat → Int) : MC := .inl (false, t, n, f)
abbrev kZ (n : Nat) (f : Nat → Int) : MC := .inl (true, 0, n, f)
abbrev kR (y n : Nat) (g : Nat → Option Nat) : MC := .inr (.inl (y, n, g))
abbrev kO (ci : Nat) (fs : List MV) : MC := .inr (.inr (ci, fs))
abbrev MH : Type := Nat → Option MC
def ec (E : Ev) (c : MC) : va_E := match c with
  | .inl (b, _, n, f) => .inl (E.2.1 (if b then 1 else 0), n, .inl (fun j => Int32.ofInt (f j)))
  | .inr (.inl (y, n, g)) => .inl (E.2.1 (2 + y), n, .inr (.inr (.inr (.inr (fun j => cq E (g j))))))
  | .inr (.inr (ci, fs)) => .inr (ci, fs.map (cv E))
def okC (c : MC) : Prop := match c with
  | .inl (b, _, n, f) => n < 2147483648 ∧ ∀ j, j < n → i32 (f j) ∧ (b = true → f j = 0 ∨ f j = 1)
  | .inr (.inl (_, n, _)) => n < 2147483648
  | .inr (.inr (_, fs)) => ∀ v ∈ fs, okV v
def ty4 (E : Ev) : List (ClassId × FieldType) := [(E.2.1 0, .int), (E.2.1 1, .boolean), (E.2.1 2, .object "RiverRoad$Sheet"), (E.2.1 3, .object "RiverRoad$Thing")]
/-- the static arrays -/
def stN (k : Nat) : String := match k with
  | 1 => "LANDS_BY_LOOPS"
  | 2 => "UNLIKE_LOOPS"
  | _ => "FOLDS_BY_FIRST"
def stL (k : Nat) : Nat := match k with
  | 1 => 49
  | 2 => 5
  | _ => 8
def stT (k : Nat) : List Int := match k with
  | 1 => [1, 0, 0, 0, 0, 0, 0, 2, 2, 0, 0, 0, 0, 0, 8, 12, 5, 0, 0, 0, 0, 42, 84, 56, 14, 0, 0, 0, 262, 640, 580, 240, 42, 0, 0, 1828, 5236, 5894, 3344, 990, 132, 0, 13820, 45164, 60312, 42840, 17472, 4004, 429]
  | 2 => [1, 1, 2, 4, 14]
  | _ => [1, 1, 2, 4, 10, 24, 66, 174]
def stV (k j : Nat) : Int := (stT k).getD j 0
/-- classes that may be cast, methods that are declared alone, pairs that may not be cast -/
def caL : List (String × String) := [("[I", "java/lang/Cloneable"), ("RiverRoad$Nest", "RiverRoad$Arches"), ("RiverRoad$Peaks", "RiverRoad$Arches"), ("RiverRoad$Loop", "RiverRoad$Land"), ("RiverRoad$Arches", "RiverRoad$Row"), ("RiverRoad$Nest", "RiverRoad$Row"), ("RiverRoad$Peaks", "RiverRoad$Row"), ("RiverRoad$Fold", "RiverRoad$Strip"), ("RiverRoad$Peaks", "RiverRoad$Thing"), ("RiverRoad$Nest", "RiverRoad$Thing"), ("RiverRoad$Arches", "RiverRoad$Thing"), ("RiverRoad$Row", "RiverRoad$Thing"), ("RiverRoad$Loop", "RiverRoad$Thing"), ("RiverRoad$Land", "RiverRoad$Thing"), ("RiverRoad$Strip", "RiverRoad$Thing"), ("RiverRoad$Fold", "RiverRoad$Thing")]
def deL : List MethodName := [⟨"RiverRoad$Thing", "told", "()I"⟩, ⟨"RiverRoad$Thing", "askWorth", "(LRiverRoad$Trace;)I"⟩, ⟨"RiverRoad$Land", "askSize", "(LRiverRoad$Trace;)I"⟩, ⟨"RiverRoad$Thing", "askSize", "(LRiverRoad$Trace;)I"⟩, ⟨"RiverRoad$Thing", "askMark", "(LRiverRoad$Trace;)I"⟩, ⟨"RiverRoad$Arches", "askWorth", "(LRiverRoad$Trace;)I"⟩]
def ncL : List (String × String) := [("RiverRoad", "RiverRoad$Arches"), ("RiverRoad$Trace", "RiverRoad$Arches"), ("RiverRoadModel", "RiverRoad$Arches"), ("RiverRoad$Sheet", "RiverRoad$Arches"), ("RiverRoad$Row", "RiverRoad$Arches"), ("RiverRoad$Loop", "RiverRoad$Arches"), ("RiverRoad$Land", "RiverRoad$Arches"), ("RiverRoad$Strip", "RiverRoad$Arches"), ("RiverRoad$Fold", "RiverRoad$Arches"), ("RiverRoad", "RiverRoad$Land"), ("RiverRoad$Trace", "RiverRoad$Land"), ("RiverRoadModel", "RiverRoad$Land"), ("RiverRoad$Sheet", "RiverRoad$Land"), ("RiverRoad$Peaks", "RiverRoad$Land"), ("RiverRoad$Nest", "RiverRoad$Land"), ("RiverRoad$Arches", "RiverRoad$Land"), ("RiverRoad$Row", "RiverRoad$Land"), ("RiverRoad$Strip", "RiverRoad$Land"), ("RiverRoad$Fold", "RiverRoad$Land"), ("RiverRoad", "RiverRoad$Row"), ("RiverRoad$Trace", "RiverRoad$Row"), ("RiverRoadModel", "RiverRoad$Row"), ("RiverRoad$Sheet", "RiverRoad$Row"), ("RiverRoad$Loop", "RiverRoad$Row"), ("RiverRoad$Land", "RiverRoad$Row"), ("RiverRoad$Strip", "RiverRoad$Row"), ("RiverRoad$Fold", "RiverRoad$Row"), ("RiverRoad", "RiverRoad$Nest"), ("RiverRoad$Trace", "RiverRoad$Nest"), ("RiverRoadModel", "RiverRoad$Nest"), ("RiverRoad$Sheet", "RiverRoad$Nest"), ("RiverRoad$Peaks", "RiverRoad$Nest"), ("RiverRoad$Arches", "RiverRoad$Nest"), ("RiverRoad$Row", "RiverRoad$Nest"), ("RiverRoad$Loop", "RiverRoad$Nest"), ("RiverRoad$Land", "RiverRoad$Nest"), ("RiverRoad$Strip", "RiverRoad$Nest"), ("RiverRoad$Fold", "RiverRoad$Nest"), ("RiverRoad", "RiverRoad$Peaks"), ("RiverRoad$Trace", "RiverRoad$Peaks"), ("RiverRoadModel", "RiverRoad$Peaks"), ("RiverRoad$Sheet", "RiverRoad$Peaks"), ("RiverRoad$Nest", "RiverRoad$Peaks"), ("RiverRoad$Arches", "RiverRoad$Peaks"), ("RiverRoad$Row", "RiverRoad$Peaks"), ("RiverRoad$Loop", "RiverRoad$Peaks"), ("RiverRoad$Land", "RiverRoad$Peaks"), ("RiverRoad$Strip", "RiverRoad$Peaks"), ("RiverRoad$Fold", "RiverRoad$Peaks"), ("RiverRoad", "RiverRoad$Loop"), ("RiverRoad$Trace", "RiverRoad$Loop"), ("RiverRoadModel", "RiverRoad$Loop"), ("RiverRoad$Sheet", "RiverRoad$Loop"), ("RiverRoad$Peaks", "RiverRoad$Loop"), ("RiverRoad$Nest", "RiverRoad$Loop"), ("RiverRoad$Arches", "RiverRoad$Loop"), ("RiverRoad$Row", "RiverRoad$Loop"), ("RiverRoad$Land", "RiverRoad$Loop"), ("RiverRoad$Strip", "RiverRoad$Loop"), ("RiverRoad$Fold", "RiverRoad$Loop"), ("RiverRoad", "RiverRoad$Strip"), ("RiverRoad$Trace", "RiverRoad$Strip"), ("RiverRoadModel", "RiverRoad$Strip"), ("RiverRoad$Sheet", "RiverRoad$Strip"), ("RiverRoad$Peaks", "RiverRoad$Strip"), ("RiverRoad$Nest", "RiverRoad$Strip"), ("RiverRoad$Arches", "RiverRoad$Strip"), ("RiverRoad$Row", "RiverRoad$Strip"), ("RiverRoad$Loop", "RiverRoad$Strip"), ("RiverRoad$Land", "RiverRoad$Strip"), ("RiverRoad", "RiverRoad$Fold"), ("RiverRoad$Trace", "RiverRoad$Fold"), ("RiverRoadModel", "RiverRoad$Fold"), ("RiverRoad$Sheet", "RiverRoad$Fold"), ("RiverRoad$Peaks", "RiverRoad$Fold"), ("RiverRoad$Nest", "RiverRoad$Fold"), ("RiverRoad$Arches", "RiverRoad$Fold"), ("RiverRoad$Row", "RiverRoad$Fold"), ("RiverRoad$Loop", "RiverRoad$Fold"), ("RiverRoad$Land", "RiverRoad$Fold"), ("RiverRoad$Strip", "RiverRoad$Fold"), ("[LRiverRoad$Sheet;", "RiverRoad$Arches"), ("[LRiverRoad$Thing;", "RiverRoad$Arches"), ("[I", "RiverRoad$Arches"), ("[Z", "RiverRoad$Arches"), ("[LRiverRoad$Sheet;", "RiverRoad$Land"), ("[LRiverRoad$Thing;", "RiverRoad$Land"), ("[I", "RiverRoad$Land"), ("[Z", "RiverRoad$Land"), ("[LRiverRoad$Sheet;", "RiverRoad$Row"), ("[LRiverRoad$Thing;", "RiverRoad$Row"), ("[I", "RiverRoad$Row"), ("[Z", "RiverRoad$Row"), ("[LRiverRoad$Sheet;", "RiverRoad$Nest"), ("[LRiverRoad$Thing;", "RiverRoad$Nest"), ("[I", "RiverRoad$Nest"), ("[Z", "RiverRoad$Nest"), ("[LRiverRoad$Sheet;", "RiverRoad$Peaks"), ("[LRiverRoad$Thing;", "RiverRoad$Peaks"), ("[I", "RiverRoad$Peaks"), ("[Z", "RiverRoad$Peaks"), ("[LRiverRoad$Sheet;", "RiverRoad$Loop"), ("[LRiverRoad$Thing;", "RiverRoad$Loop"), ("[I", "RiverRoad$Loop"), ("[Z", "RiverRoad$Loop"), ("[LRiverRoad$Sheet;", "RiverRoad$Strip"), ("[LRiverRoad$Thing;", "RiverRoad$Strip"), ("[I", "RiverRoad$Strip"), ("[Z", "RiverRoad$Strip"), ("[LRiverRoad$Sheet;", "RiverRoad$Fold"), ("[LRiverRoad$Thing;", "RiverRoad$Fold"), ("[I", "RiverRoad$Fold"), ("[Z", "RiverRoad$Fold"), ("RiverRoad", "RiverRoad$Sheet"), ("RiverRoad$Trace", "RiverRoad$Sheet"), ("RiverRoadModel", "RiverRoad$Sheet"), ("RiverRoad$Peaks", "RiverRoad$Sheet"), ("RiverRoad$Nest", "RiverRoad$Sheet"), ("RiverRoad$Arches", "RiverRoad$Sheet"), ("RiverRoad$Row", "RiverRoad$Sheet"), ("RiverRoad$Loop", "RiverRoad$Sheet"), ("RiverRoad$Land", "RiverRoad$Sheet"), ("RiverRoad$Strip", "RiverRoad$Sheet"), ("RiverRoad$Fold", "RiverRoad$Sheet"), ("RiverRoad$Thing", "RiverRoad$Sheet"), ("RiverRoad", "RiverRoad$Thing"), ("RiverRoad$Trace", "RiverRoad$Thing"), ("RiverRoadModel", "RiverRoad$Thing"), ("RiverRoad$Sheet", "RiverRoad$Thing")]

/-- what a state says of the tables, of the casts, of the static arrays -/
def SF (E : Ev) (U : State) : Prop :=
  va_K E.1 classes (ty4 E) U ∧ (∀ w ∈ lw_tbl, goodWord w = true → w.before #[] U = true) ∧
  (∀ q ∈ caL, va_Nw (.castable q.1 q.2) U) ∧ (∀ y ∈ deL, va_Nw (.declares y) U) ∧ va_Nw (.methodLinkNest "RiverRoad" 23 ⟨"RiverRoad$Trace", "<init>", "()V"⟩ "RiverRoad") U ∧
  (∀ q ∈ ncL, va_Nc q.1 q.2 U) ∧ va_AO "RiverRoad$Sheet" U ∧ va_AO "RiverRoad$Thing" U ∧ eb E ≤ U.heap.size ∧
  ∀ k, 1 ≤ k → k ≤ 3 → va_Z "RiverRoad" (stN k) "[I" (.ref (E.2.2.2 k)) (fun q => eb E ≤ q) U U.heap ∧ va_T .int (E.2.2.2 k) (stL k) (fun j => .int (Int32.ofInt (stV k j))) (fun q => eb E ≤ q) U U.heap
theorem SF.warm {E : Ev} {s U : State} (h : SF E s) (hW : s.WarmedH U.vm) (hb : eb E ≤ U.heap.size) (hq : ∀ q : Nat, q < s.heap.size → ¬ eb E ≤ q → U.heap[q]? = s.heap[q]?) : SF E U := by
  obtain ⟨h1, h2, h3, h4, h5, h6, h7, h8, h9, h10⟩ := h
  refine ⟨va_K.moved hW.alike h1, fun w hw hg => word_at hW (good_of_word hg) (h2 w hw hg), fun q hq => (h3 q hq).warmC hW, fun y hy => (h4 y hy).warmD hW, h5.warmM hW, fun q hq => (h6 q hq).moved hW.alike, h7.moved hW.alike, h8.moved hW.alike, hb, fun k hk1 hk2 => ?_⟩
  obtain ⟨a, b⟩ := h10 k hk1 hk2
  exact ⟨(a.moved hW.alike).kept hq, (b.moved hW.alike).kept hq⟩
/-- the heap holds the cells of h, and is as large as sz says -/
def RW (E : Ev) (h : MH) (sz : Nat) (H : Heap) : Prop := H.size = eb E + sz ∧ ∀ a c, h a = some c → okC c ∧ va_at E.1 classes (eb E + a, ec E c) H
/-- the cells that a method may write: those of h, and new ones -/
def FR (E : Ev) (h : MH) (sz : Nat) : Nat → Prop := fun q => (∃ a c, h a = some c ∧ q = eb E + a) ∨ eb E + sz ≤ q
/-- locals, by their places -/
def lk : List (Option MV) → Nat → Option MV
  | [], _ => none
  | o :: _, 0 => o
  | _ :: l, n + 1 => lk l n
def LL (E : Ev) (nL : Nat) (ls : List (Option MV)) (lv : Array Slot) : Prop := lv.size = nL ∧ lv_wf lv ∧ ∀ i v, lk ls i = some v → lv[i]? = some (.val (cv E v)) ∧ okV v
/-- a method: its name, code, locals, answer -/
abbrev MD : Type := MethodName × ByteArray × Nat × Option FieldType
abbrev QT : Type := Option MV → MH → Nat → Prop
def okRet (rt : Option FieldType) (r : Option MV) : Prop := match r with
  | none => rt = none
  | some (.inl z) => rt = some .int ∨ (rt = some .boolean ∧ (z = 0 ∨ z = 1))
  | some (.inr (.inl _)) => rt = some .long
  | some (.inr (.inr _)) => (∃ t, rt = some (.array t)) ∨ ∃ c, rt = some (.object c)
def retI (r : Option MV) : Instr := match r with
  | none => .return_
  | some (.inl _) => .ireturn
  | some (.inr (.inl _)) => .lreturn
  | some (.inr (.inr _)) => .areturn
/-- the walk's own facts: of the machine, the method, its room (d frames deep, MC cells of MS slots), and what a return needs -/
def Cx (p : Program) (l : Launch) (e : Env) (R : Room) (s : State) (m : MethodId) (args : Array Value) (below : List Frame) (meth : Method) (c : Code) (Z : State → Prop) (E : Ev) (F : Nat → Prop) (cM sM : Nat) (M : MD) (d : Nat) (Q : QT) : Prop :=
  (p.tables.exec = Jvm.exec ∧ c.code = M.2.1 ∧ c.maxLocals = M.2.2.1 ∧ s.vm.findClass M.1.cls = some m.cls ∧ meth.name = M.1.name) ∧ SF E s ∧
  ((∀ q, s.heap.size ≤ q → F q) ∧ (∀ q, F q → eb E ≤ q)) ∧ (d ≤ R.frames ∧ 40 * d ≤ R.locals ∧ cM ≤ R.cells ∧ sM ≤ R.slots) ∧
  ∀ (H : Heap) (locs : List Loc) (lv : Array Slot) (pc : Nat) (r : Option MV) (h : MH) (sz : Nat), RW E h sz H → (∀ a c, h a = some c → F (eb E + a)) → va_S F s.heap H locs → (∀ v, r = some v → okV v) → okRet M.2.2.2 r → Q r h sz → decode M.2.1 pc = .ok (retI r, 1) →
    W p l e R s m args below meth c H locs cM sM Z (F0 m pc lv (r.toList.map (cv E)))
/-- THE WALK over pure worlds: from here the method comes to its end with Q; kc cells of ks slots may still be made -/
def V (M : MD) (d pc : Nat) (ls : List (Option MV)) (st : List MV) (h : MH) (sz kc ks : Nat) (Q : QT) : Prop :=
  ∀ (p : Program) (l : Launch) (e : Env) (R : Room) (s : State) (m : MethodId) (args : Array Value) (below : List Frame) (meth : Method) (c : Code) (Z : State → Prop) (E : Ev) (F : Nat → Prop) (cM sM : Nat),
    Cx p l e R s m args below meth c Z E F cM sM M d Q → ∀ (H : Heap) (locs : List Loc) (cells slots : Nat) (lv : Array Slot),
    RW E h sz H → (∀ a c, h a = some c → F (eb E + a)) → va_S F s.heap H locs → LL E M.2.2.1 ls lv → (∀ v ∈ st, okV v) → cells + kc ≤ cM → slots + ks ≤ sM →
    W p l e R s m args below meth c H locs cells slots Z (F0 m pc lv (st.map (cv E)))
/-- A CONTRACT over pure worlds: from h the method answers, and leaves a world, with Q -/
def cPre (E : Ev) (as : List MV) (h : MH) (sz : Nat) : Array Value → State → Prop := fun a U => a = (as.map (cv E)).toArray ∧ (∀ v ∈ as, okV v) ∧ SF E U ∧ RW E h sz U.heap
def cPost (E : Ev) (h : MH) (sz : Nat) (Q : QT) : Array Value → State → Outcome → State → Prop := fun _ st o t => ∃ (r : Option MV) (h2 : MH) (sz2 : Nat), o = .returned (r.map (cv E)) ∧ (∀ v, r = some v → okV v) ∧ Q r h2 sz2 ∧ RW E h2 sz2 t.heap ∧ (∀ a c, h2 a = some c → FR E h sz (eb E + a)) ∧ va_F (FR E h sz) st t
def Ct (M : MD) (d mc ms : Nat) (as : List MV) (h : MH) (sz : Nat) (Q : QT) : Prop :=
  ∀ (l : Launch) (E : Ev), Met l M.1 [.code M.1 M.2.1 M.2.2.1 M.2.2.2] ({ frames := d, cells := mc, slots := ms, locals := 40 * d }) (cPre E as h sz) (cPost E h sz Q) mc ms (FR E h sz)
/-- locals at a method's entry -/
def lsOf : List MV → List (Option MV)
  | [] => []
  | .inr (.inl z) :: t => some (vL z) :: none :: lsOf t
  | v :: t => some v :: lsOf t
end
section
theorem cv_cat (E : Ev) (v : MV) : (cv E v).category = (match v with | .inr (.inl _) => 2 | _ => 1) := by
  rcases v with z | z | o | k
  · rfl
  · rfl
  · cases o <;> rfl
  · rfl
theorem lsOf_len (E : Ev) : ∀ as : List MV, (lg_sl (as.map (cv E))).length = (lsOf as).length
  | [] => rfl
  | .inr (.inl z) :: t => by
    have ih := lsOf_len E t
    simp only [lg_sl] at ih
    simp only [List.map_cons, lg_sl, List.flatMap_cons, List.length_append, lsOf, List.length_cons, ih]
    simp [cv, Value.category]; omega
  | .inl z :: t => by
    have ih := lsOf_len E t
    simp only [lg_sl] at ih
    simp only [List.map_cons, lg_sl, List.flatMap_cons, List.length_append, lsOf, List.length_cons, ih]
    simp [cv, Value.category]; omega
  | .inr (.inr (.inl none)) :: t => by
    have ih := lsOf_len E t
    simp only [lg_sl] at ih
    simp only [List.map_cons, lg_sl, List.flatMap_cons, List.length_append, lsOf, List.length_cons, ih]
    simp [cv, Value.category]; omega
  | .inr (.inr (.inl (some a))) :: t => by
    have ih := lsOf_len E t
    simp only [lg_sl] at ih
    simp only [List.map_cons, lg_sl, List.flatMap_cons, List.length_append, lsOf, List.length_cons, ih]
    simp [cv, Value.category]; omega
  | .inr (.inr (.inr k)) :: t => by
    have ih := lsOf_len E t
    simp only [lg_sl] at ih
    simp only [List.map_cons, lg_sl, List.flatMap_cons, List.length_append, lsOf, List.length_cons, ih]
    simp [cv, Value.category]; omega
theorem lsOf_cons (v : MV) (t : List MV) : lsOf (v :: t) = (match v with | .inr (.inl z) => some (vL z) :: none :: lsOf t | w => some w :: lsOf t) := by
  rcases v with z | z | o | k <;> rfl
theorem lsOf_mem (E : Ev) : ∀ (as : List MV) (k i : Nat) (v : MV), lk (lsOf as) i = some v → (k + i, cv E v) ∈ lv_args k (as.map (cv E)) ∧ v ∈ as
  | [], k, i, v, h => by simp [lsOf, lk] at h
  | w :: t, k, i, v, h => by
    rw [List.map_cons, lv_args, cv_cat]
    rw [lsOf_cons] at h
    rcases w with z | z | o | q
    · match i, h with
      | 0, h => cases h; exact ⟨List.mem_cons_self, List.mem_cons_self⟩
      | i + 1, h =>
        have ih := lsOf_mem E t (k + 1) i v h
        refine ⟨List.mem_cons_of_mem _ ?_, List.mem_cons_of_mem _ ih.2⟩
        rw [show k + (i + 1) = k + 1 + i by omega]; exact ih.1
    · match i, h with
      | 0, h => cases h; exact ⟨List.mem_cons_self, List.mem_cons_self⟩
      | 1, h => cases h
      | i + 2, h =>
        have ih := lsOf_mem E t (k + 2) i v h
        refine ⟨List.mem_cons_of_mem _ ?_, List.mem_cons_of_mem _ ih.2⟩
        rw [show k + (i + 2) = k + 2 + i by omega]; exact ih.1
    · match i, h with
      | 0, h => cases h; exact ⟨List.mem_cons_self, List.mem_cons_self⟩
      | i + 1, h =>
        have ih := lsOf_mem E t (k + 1) i v h
        refine ⟨List.mem_cons_of_mem _ ?_, List.mem_cons_of_mem _ ih.2⟩
        rw [show k + (i + 1) = k + 1 + i by omega]; exact ih.1
    · match i, h with
      | 0, h => cases h; exact ⟨List.mem_cons_self, List.mem_cons_self⟩
      | i + 1, h =>
        have ih := lsOf_mem E t (k + 1) i v h
        refine ⟨List.mem_cons_of_mem _ ?_, List.mem_cons_of_mem _ ih.2⟩
        rw [show k + (i + 1) = k + 1 + i by omega]; exact ih.1
theorem LL_entry (E : Ev) (as : List MV) (nL : Nat) (hl : (lsOf as).length ≤ nL) (hok : ∀ v ∈ as, okV v) : LL E nL (lsOf as) ((lg_sl (as.map (cv E)) ++ List.replicate (nL - (lg_sl (as.map (cv E))).length) Slot.unset).toArray) := by
  have h := lv_entry (as.map (cv E)) (n := nL) (by rw [lsOf_len]; exact hl)
  refine ⟨h.1, h.2.1, fun i v hv => ?_⟩
  have hm := lsOf_mem E as 0 i v hv
  rw [Nat.zero_add] at hm
  exact ⟨h.2.2 _ hm.1, hok v hm.2⟩
theorem RW.lt {E : Ev} {h : MH} {sz a : Nat} {c : MC} {H : Heap} (hR : RW E h sz H) (ha : h a = some c) : a < sz := by
  have := (hR.2 a c ha).2.lt
  have h1 := hR.1
  simp only at this
  omega
theorem SF.base {E : Ev} {s : State} (h : SF E s) : eb E ≤ s.heap.size := h.2.2.2.2.2.2.2.2.1
theorem Ct.of {M : MD} {d mc ms : Nat} {as : List MV} {h : MH} {sz : Nat} {Q : QT} (hp : plainName M.1.cls = true) (hl : (lsOf as).length ≤ M.2.2.1) (hV : V M d 0 (lsOf as) [] h sz mc ms Q) : Ct M d mc ms as h sz Q := by
  intro l E
  refine Met.ofW (cc := M.2.1) (maxL := M.2.2.1) (ret := M.2.2.2) hp rfl ?_
  intro p e s m args below meth c s₁ B hml hv
  obtain ⟨rfl, hok, hSF, hRW⟩ := hv
  have hx := B.exec
  have hb := B.bytes
  have hr := B.returns
  have hown : s.vm.findClass M.1.cls = some m.cls := findClass_of_methodNamed B.named
  have hlocks := B.notSynchronized
  have hnm : meth.name = M.1.name := (name_of_methodNamed B.named B.method).1
  rw [lg_entry_eq]
  have hL := LL_entry E as M.2.2.1 hl hok
  refine hV p l e _ s m _ below meth c _ E (FR E h sz) mc ms ⟨⟨hx, hb, hml, hown, hnm⟩, hSF, ⟨fun q hq => Or.inr (by rw [← hRW.1]; exact hq), ?_⟩, ⟨Nat.le_refl _, Nat.le_refl _, Nat.le_refl _, Nat.le_refl _⟩, ?_⟩ s.heap [] 0 0 _ hRW (fun a c ha => Or.inl ⟨a, c, ha, rfl⟩) va_S.rf hL (fun v hv => by cases hv) (by omega) (by omega)
  · intro q hq
    rcases hq with ⟨a, c, -, rfl⟩ | hq
    · exact Nat.le_add_right _ _
    · omega
  · intro H locs lv pc r h2 sz2 hR2 hF2 hS2 hok2 hrt hQ hd
    have post : ∀ t : State, t.heap = H → s.WarmedH t.vm → cPost E h sz Q (as.map (cv E)).toArray s (.returned (r.map (cv E))) t := fun t ht hW => ⟨r, h2, sz2, rfl, hok2, hQ, by rw [ht]; exact hR2, hF2, by rw [ht]; exact hS2.1, by rw [ht]; exact hS2.2.1⟩
    rcases r with - | (z | z | o | k)
    · exact W.vret hx hb (by rw [hr]; exact hrt) post hS2.2.2 hd
    · rcases hrt with h1 | ⟨h1, h3⟩
      · exact W.iret hx hb (by rw [hr]; exact h1) post hS2.2.2 hd
      · refine W.zret (ty := .boolean) hx hb (by rw [hr]; exact h1) ?_ post hS2.2.2 hd
        rcases h3 with rfl | rfl <;> rfl
    · exact W.lret hx hb (by rw [hr]; exact hrt) post hS2.2.2 hd
    · have hv : cv E (.inr (.inr (.inl o))) = .null ∨ ∃ a, cv E (.inr (.inr (.inl o))) = .ref a := by
        cases o with
        | none => exact Or.inl rfl
        | some a => exact Or.inr ⟨_, rfl⟩
      rcases hrt with ⟨t, h1⟩ | ⟨t, h1⟩
      · exact W.aret (rt := .array t) hx hb (by rw [hr]; exact h1) (Or.inr ⟨t, rfl⟩) hv post hS2.2.2 hd
      · exact W.aret (rt := .object t) hx hb (by rw [hr]; exact h1) (Or.inl ⟨t, rfl⟩) hv post hS2.2.2 hd
    · have hv : cv E (.inr (.inr (.inr k))) = .null ∨ ∃ a, cv E (.inr (.inr (.inr k))) = .ref a := Or.inr ⟨_, rfl⟩
      rcases hrt with ⟨t, h1⟩ | ⟨t, h1⟩
      · exact W.aret (rt := .array t) hx hb (by rw [hr]; exact h1) (Or.inr ⟨t, rfl⟩) hv post hS2.2.2 hd
      · exact W.aret (rt := .object t) hx hb (by rw [hr]; exact h1) (Or.inl ⟨t, rfl⟩) hv post hS2.2.2 hd
end
section
/-! RULES: numbers -/
theorem i32_to {z : Int} (h : i32 z) : (Int32.ofInt z).toInt = z := Int32.toInt_ofInt_of_le h.1 h.2
theorem i64_to {z : Int} (h : i64 z) : (Int64.ofInt z).toInt = z := Int64.toInt_ofInt_of_le h.1 h.2
theorem i32_eq {x y : Int} (hx : i32 x) (hy : i32 y) : Int32.ofInt x = Int32.ofInt y ↔ x = y := by rw [← Int32.toInt_inj, i32_to hx, i32_to hy]
theorem i32_lt {x y : Int} (hx : i32 x) (hy : i32 y) : Int32.ofInt x < Int32.ofInt y ↔ x < y := by rw [Int32.lt_iff_toInt_lt, i32_to hx, i32_to hy]
theorem i32_le {x y : Int} (hx : i32 x) (hy : i32 y) : Int32.ofInt x ≤ Int32.ofInt y ↔ x ≤ y := by rw [Int32.le_iff_toInt_le, i32_to hx, i32_to hy]
theorem i64_eq {x y : Int} (hx : i64 x) (hy : i64 y) : Int64.ofInt x = Int64.ofInt y ↔ x = y := by rw [← Int64.toInt_inj, i64_to hx, i64_to hy]
theorem i64_lt {x y : Int} (hx : i64 x) (hy : i64 y) : Int64.ofInt x < Int64.ofInt y ↔ x < y := by rw [Int64.lt_iff_toInt_lt, i64_to hx, i64_to hy]
theorem i32_0 : i32 0 := by unfold i32; omega
theorem i32_cl {z : Int} (h : i32 z) : (Int32.ofInt z).toNatClampNeg = z.toNat := Int32.toNatClampNeg_ofInt_of_le h.1 h.2
theorem i32_in {z : Int} {n : Nat} (h : i32 z) (h0 : 0 ≤ z) (h1 : z < n) : ¬ (Int32.ofInt z < 0 ∨ n ≤ (Int32.ofInt z).toNatClampNeg) := by
  rw [show (0 : Int32) = Int32.ofInt 0 from rfl, i32_lt h i32_0, i32_cl h]; omega
theorem i32_i64 {z : Int} (h : i32 z) : i64 z := by unfold i32 at h; unfold i64; omega
theorem i32_wide {z : Int} (h : i32 z) : (Int32.ofInt z).toInt64 = Int64.ofInt z := by
  rw [← Int64.toInt_inj, Int32.toInt_toInt64, i32_to h, i64_to (i32_i64 h)]
theorem i64_nar {z : Int} : (Int64.ofInt z).toInt32 = Int32.ofInt z := Int64.toInt32_ofInt
theorem i32_div {x y : Int} (hx : i32 x) (hy : i32 y) (h0 : 0 ≤ x) (h1 : 0 < y) : Int32.ofInt x / Int32.ofInt y = Int32.ofInt (x / y) := by
  have hd : i32 (x / y) := by
    have a := Int.ediv_nonneg h0 (Int.le_of_lt h1)
    have b := Int.ediv_le_self y h0
    unfold i32 at *; omega
  have hne : Int32.ofInt y ≠ -1 := by
    intro q
    have : Int32.ofInt y = Int32.ofInt (-1) := q
    rw [i32_eq hy (by unfold i32; omega)] at this; omega
  rw [← Int32.toInt_inj, Int32.toInt_div_of_ne_right _ _ hne, i32_to hx, i32_to hy, i32_to hd, Int.tdiv_eq_ediv_of_nonneg h0]
theorem i32_rem {x y : Int} (hx : i32 x) (hy : i32 y) (h0 : 0 ≤ x) (h1 : 0 < y) : Int32.ofInt x - Int32.ofInt x / Int32.ofInt y * Int32.ofInt y = Int32.ofInt (x % y) := by
  rw [i32_div hx hy h0 h1, ← Int32.ofInt_mul, ← Int32.ofInt_sub]
  congr 1
  have := Int.mul_ediv_add_emod x y
  rw [Int.mul_comm]; omega
theorem bm_rng (x : Int) (m : Nat) (hm : 0 < m) : -(m : Int) ≤ 2 * x.bmod m ∧ 2 * x.bmod m < m := by
  have h1 := Int.le_bmod (x := x) hm
  have h2 := Int.bmod_lt (x := x) hm
  omega
theorem i32_bmod8 (x : Int) : i32 (x.bmod 256) := by have := bm_rng x 256 (by omega); unfold i32; omega
theorem i32_bmod16 (x : Int) : i32 (x.bmod 65536) := by have := bm_rng x 65536 (by omega); unfold i32; omega
theorem i32_b {x : Int} : (Int32.ofInt x).toInt8.toInt32 = Int32.ofInt (x.bmod 256) := by
  rw [← Int32.toInt_inj, Int8.toInt_toInt32, Int32.toInt8_ofInt, i32_to (i32_bmod8 x), Int8.toInt_ofInt]
theorem i32_s {x : Int} : (Int32.ofInt x).toInt16.toInt32 = Int32.ofInt (x.bmod 65536) := by
  rw [← Int32.toInt_inj, Int16.toInt_toInt32, Int32.toInt16_ofInt, i32_to (i32_bmod16 x), Int16.toInt_ofInt]
def lc (x y : Int) : Int := if y < x then 1 else if x = y then 0 else -1
theorem lc_rng (x y : Int) : i32 (lc x y) := by unfold lc i32; split <;> (try split) <;> omega
theorem lc_ok {x y : Int} (hx : i64 x) (hy : i64 y) : lg_cmp (Int64.ofInt x) (Int64.ofInt y) = Int32.ofInt (lc x y) := by
  unfold lg_cmp lc
  simp only [gt_iff_lt, i64_lt hy hx, i64_eq hx hy]
  split
  · rfl
  · split <;> rfl
/-! RULES: the stack alone -/
def StepS (M : MD) (pc pc2 : Nat) (st st2 : List MV) : Prop := ∀ (p : Program) (l : Launch) (e : Env) (R : Room) (s : State) (m : MethodId) (args : Array Value) (below : List Frame) (meth : Method) (c : Code) (Z : State → Prop) (E : Ev) (H : Heap) (locs : List Loc) (cells slots : Nat) (lv : Array Slot),
  p.tables.exec = Jvm.exec → c.code = M.2.1 → (∀ v ∈ st, okV v) → W p l e R s m args below meth c H locs cells slots Z (F0 m pc2 lv (st2.map (cv E))) → W p l e R s m args below meth c H locs cells slots Z (F0 m pc lv (st.map (cv E)))
theorem V.st {M : MD} {d pc pc2 : Nat} {ls : List (Option MV)} {st st2 : List MV} {h : MH} {sz kc ks : Nat} {Q : QT} (hs : StepS M pc pc2 st st2) (hok : (∀ v ∈ st, okV v) → ∀ v ∈ st2, okV v) (k : V M d pc2 ls st2 h sz kc ks Q) : V M d pc ls st h sz kc ks Q := by
  intro p l e R s m args below meth c Z E F cM sM C H locs cells slots lv hR hF hS hL hst h1 h2
  exact hs p l e R s m args below meth c Z E H locs cells slots lv C.1.1 C.1.2.1 hst (k p l e R s m args below meth c Z E F cM sM C H locs cells slots lv hR hF hS hL (hok hst) h1 h2)
theorem ok1 {v w : MV} {st : List MV} (hw : okV v → okV w) (h : ∀ u ∈ v :: st, okV u) : ∀ u ∈ w :: st, okV u := by
  intro u hu
  rcases List.mem_cons.mp hu with rfl | hu
  · exact hw (h _ List.mem_cons_self)
  · exact h _ (List.mem_cons_of_mem _ hu)
theorem okp {v : MV} {st : List MV} (hw : okV v) (h : ∀ u ∈ st, okV u) : ∀ u ∈ v :: st, okV u := by
  intro u hu
  rcases List.mem_cons.mp hu with rfl | hu
  · exact hw
  · exact h _ hu
theorem okt {v : MV} {st : List MV} (h : ∀ u ∈ v :: st, okV u) : ∀ u ∈ st, okV u := fun u hu => h _ (List.mem_cons_of_mem _ hu)
theorem okh {v : MV} {st : List MV} (h : ∀ u ∈ v :: st, okV u) : okV v := h _ List.mem_cons_self

theorem V.iadd {M : MD} {d pc : Nat} {ls : List (Option MV)} {st : List MV} {h : MH} {sz kc ks : Nat} {Q : QT} {x y : Int} (hd : decode M.2.1 pc = .ok (.iadd, 1)) (hz : i32 (x + y)) (k : V M d (pc + 1) ls (vI (x + y) :: st) h sz kc ks Q) : V M d pc ls (vI y :: vI x :: st) h sz kc ks Q := by
  refine V.st (pc2 := (pc + 1)) (st2 := vI (x + y) :: st) ?_ ?_ k
  · intro p l e R s m args below meth c Z E H locs cells slots lv hx hb hst k
    refine lv_iadd hx hb hd ?_
    rw [← Int32.ofInt_add]; exact k
  · intro hst
    exact okp hz (okt (okt hst))
theorem V.isub {M : MD} {d pc : Nat} {ls : List (Option MV)} {st : List MV} {h : MH} {sz kc ks : Nat} {Q : QT} {x y : Int} (hd : decode M.2.1 pc = .ok (.isub, 1)) (hz : i32 (x - y)) (k : V M d (pc + 1) ls (vI (x - y) :: st) h sz kc ks Q) : V M d pc ls (vI y :: vI x :: st) h sz kc ks Q := by
  refine V.st (pc2 := (pc + 1)) (st2 := vI (x - y) :: st) ?_ ?_ k
  · intro p l e R s m args below meth c Z E H locs cells slots lv hx hb hst k
    refine lv_isub hx hb hd ?_
    rw [← Int32.ofInt_sub]; exact k
  · intro hst
    exact okp hz (okt (okt hst))
theorem V.imul {M : MD} {d pc : Nat} {ls : List (Option MV)} {st : List MV} {h : MH} {sz kc ks : Nat} {Q : QT} {x y : Int} (hd : decode M.2.1 pc = .ok (.imul, 1)) (hz : i32 (x * y)) (k : V M d (pc + 1) ls (vI (x * y) :: st) h sz kc ks Q) : V M d pc ls (vI y :: vI x :: st) h sz kc ks Q := by
  refine V.st (pc2 := (pc + 1)) (st2 := vI (x * y) :: st) ?_ ?_ k
  · intro p l e R s m args below meth c Z E H locs cells slots lv hx hb hst k
    refine lv_imul hx hb hd ?_
    rw [← Int32.ofInt_mul]; exact k
  · intro hst
    exact okp hz (okt (okt hst))
theorem V.ladd {M : MD} {d pc : Nat} {ls : List (Option MV)} {st : List MV} {h : MH} {sz kc ks : Nat} {Q : QT} {x y : Int} (hd : decode M.2.1 pc = .ok (.ladd, 1)) (hz : i64 (x + y)) (k : V M d (pc + 1) ls (vL (x + y) :: st) h sz kc ks Q) : V M d pc ls (vL y :: vL x :: st) h sz kc ks Q := by
  refine V.st (pc2 := (pc + 1)) (st2 := vL (x + y) :: st) ?_ ?_ k
  · intro p l e R s m args below meth c Z E H locs cells slots lv hx hb hst k
    refine lv_ladd hx hb hd ?_
    rw [← Int64.ofInt_add]; exact k
  · intro hst
    exact okp hz (okt (okt hst))
theorem V.lsub {M : MD} {d pc : Nat} {ls : List (Option MV)} {st : List MV} {h : MH} {sz kc ks : Nat} {Q : QT} {x y : Int} (hd : decode M.2.1 pc = .ok (.lsub, 1)) (hz : i64 (x - y)) (k : V M d (pc + 1) ls (vL (x - y) :: st) h sz kc ks Q) : V M d pc ls (vL y :: vL x :: st) h sz kc ks Q := by
  refine V.st (pc2 := (pc + 1)) (st2 := vL (x - y) :: st) ?_ ?_ k
  · intro p l e R s m args below meth c Z E H locs cells slots lv hx hb hst k
    refine lv_lsub hx hb hd ?_
    rw [← Int64.ofInt_sub]; exact k
  · intro hst
    exact okp hz (okt (okt hst))
theorem V.lmul {M : MD} {d pc : Nat} {ls : List (Option MV)} {st : List MV} {h : MH} {sz kc ks : Nat} {Q : QT} {x y : Int} (hd : decode M.2.1 pc = .ok (.lmul, 1)) (hz : i64 (x * y)) (k : V M d (pc + 1) ls (vL (x * y) :: st) h sz kc ks Q) : V M d pc ls (vL y :: vL x :: st) h sz kc ks Q := by
  refine V.st (pc2 := (pc + 1)) (st2 := vL (x * y) :: st) ?_ ?_ k
  · intro p l e R s m args below meth c Z E H locs cells slots lv hx hb hst k
    refine lv_lmul hx hb hd ?_
    rw [← Int64.ofInt_mul]; exact k
  · intro hst
    exact okp hz (okt (okt hst))
theorem V.ineg {M : MD} {d pc : Nat} {ls : List (Option MV)} {st : List MV} {h : MH} {sz kc ks : Nat} {Q : QT} {x : Int} (hd : decode M.2.1 pc = .ok (.ineg, 1)) (hz : i32 (-x)) (k : V M d (pc + 1) ls (vI (-x) :: st) h sz kc ks Q) : V M d pc ls (vI x :: st) h sz kc ks Q := by
  refine V.st (pc2 := (pc + 1)) (st2 := vI (-x) :: st) ?_ ?_ k
  · intro p l e R s m args below meth c Z E H locs cells slots lv hx hb hst k
    refine lv_ineg hx hb hd ?_
    rw [← Int32.ofInt_neg]; exact k
  · intro hst
    exact okp hz (okt hst)
theorem V.idiv {M : MD} {d pc : Nat} {ls : List (Option MV)} {st : List MV} {h : MH} {sz kc ks : Nat} {Q : QT} {x y : Int} (hd : decode M.2.1 pc = .ok (.idiv, 1)) (h0 : 0 ≤ x) (h1 : 0 < y) (k : V M d (pc + 1) ls (vI (x / y) :: st) h sz kc ks Q) : V M d pc ls (vI y :: vI x :: st) h sz kc ks Q := by
  refine V.st (pc2 := (pc + 1)) (st2 := vI (x / y) :: st) ?_ ?_ k
  · intro p l e R s m args below meth c Z E H locs cells slots lv hx hb hst k
    have hy : i32 y := okh hst
    have hxx : i32 x := okh (okt hst)
    refine lv_idiv hx hb hd ?_ ?_
    · intro q
      have q2 : Int32.ofInt y = Int32.ofInt 0 := q
      rw [i32_eq hy i32_0] at q2; omega
    · rw [i32_div hxx hy h0 h1]; exact k
  · intro hst
    have hy : i32 y := okh hst
    have hxx : i32 x := okh (okt hst)
    refine okp (v := vI (x / y)) ?_ (okt (okt hst))
    have a1 := Int.ediv_nonneg h0 (Int.le_of_lt h1)
    have a2 := Int.ediv_le_self y h0
    have a3 := Int.emod_nonneg x (by omega : y ≠ 0)
    have a4 := Int.emod_lt_of_pos x h1
    show i32 _
    unfold i32 at *; omega
theorem V.irem {M : MD} {d pc : Nat} {ls : List (Option MV)} {st : List MV} {h : MH} {sz kc ks : Nat} {Q : QT} {x y : Int} (hd : decode M.2.1 pc = .ok (.irem, 1)) (h0 : 0 ≤ x) (h1 : 0 < y) (k : V M d (pc + 1) ls (vI (x % y) :: st) h sz kc ks Q) : V M d pc ls (vI y :: vI x :: st) h sz kc ks Q := by
  refine V.st (pc2 := (pc + 1)) (st2 := vI (x % y) :: st) ?_ ?_ k
  · intro p l e R s m args below meth c Z E H locs cells slots lv hx hb hst k
    have hy : i32 y := okh hst
    have hxx : i32 x := okh (okt hst)
    refine lv_irem hx hb hd ?_ ?_
    · intro q
      have q2 : Int32.ofInt y = Int32.ofInt 0 := q
      rw [i32_eq hy i32_0] at q2; omega
    · rw [i32_rem hxx hy h0 h1]; exact k
  · intro hst
    have hy : i32 y := okh hst
    have hxx : i32 x := okh (okt hst)
    refine okp (v := vI (x % y)) ?_ (okt (okt hst))
    have a1 := Int.ediv_nonneg h0 (Int.le_of_lt h1)
    have a2 := Int.ediv_le_self y h0
    have a3 := Int.emod_nonneg x (by omega : y ≠ 0)
    have a4 := Int.emod_lt_of_pos x h1
    show i32 _
    unfold i32 at *; omega
theorem V.iand {M : MD} {d pc : Nat} {ls : List (Option MV)} {st : List MV} {h : MH} {sz kc ks : Nat} {Q : QT} {x y : Int} (z : Int) (hd : decode M.2.1 pc = .ok (.iand, 1)) (hz : i32 x → i32 y → Int32.ofInt x &&& Int32.ofInt y = Int32.ofInt z ∧ i32 z) (k : V M d (pc + 1) ls (vI z :: st) h sz kc ks Q) : V M d pc ls (vI y :: vI x :: st) h sz kc ks Q := by
  refine V.st (pc2 := (pc + 1)) (st2 := vI z :: st) ?_ ?_ k
  · intro p l e R s m args below meth c Z E H locs cells slots lv hx hb hst k
    refine lv_iand hx hb hd ?_
    rw [(hz (okh (okt hst)) (okh hst)).1]; exact k
  · intro hst
    exact okp (hz (okh (okt hst)) (okh hst)).2 (okt (okt hst))
theorem V.ior {M : MD} {d pc : Nat} {ls : List (Option MV)} {st : List MV} {h : MH} {sz kc ks : Nat} {Q : QT} {x y : Int} (z : Int) (hd : decode M.2.1 pc = .ok (.ior, 1)) (hz : i32 x → i32 y → Int32.ofInt x ||| Int32.ofInt y = Int32.ofInt z ∧ i32 z) (k : V M d (pc + 1) ls (vI z :: st) h sz kc ks Q) : V M d pc ls (vI y :: vI x :: st) h sz kc ks Q := by
  refine V.st (pc2 := (pc + 1)) (st2 := vI z :: st) ?_ ?_ k
  · intro p l e R s m args below meth c Z E H locs cells slots lv hx hb hst k
    refine lv_ior hx hb hd ?_
    rw [(hz (okh (okt hst)) (okh hst)).1]; exact k
  · intro hst
    exact okp (hz (okh (okt hst)) (okh hst)).2 (okt (okt hst))
theorem V.land {M : MD} {d pc : Nat} {ls : List (Option MV)} {st : List MV} {h : MH} {sz kc ks : Nat} {Q : QT} {x y : Int} (z : Int) (hd : decode M.2.1 pc = .ok (.land, 1)) (hz : i64 x → i64 y → Int64.ofInt x &&& Int64.ofInt y = Int64.ofInt z ∧ i64 z) (k : V M d (pc + 1) ls (vL z :: st) h sz kc ks Q) : V M d pc ls (vL y :: vL x :: st) h sz kc ks Q := by
  refine V.st (pc2 := (pc + 1)) (st2 := vL z :: st) ?_ ?_ k
  · intro p l e R s m args below meth c Z E H locs cells slots lv hx hb hst k
    refine lv_land hx hb hd ?_
    rw [(hz (okh (okt hst)) (okh hst)).1]; exact k
  · intro hst
    exact okp (hz (okh (okt hst)) (okh hst)).2 (okt (okt hst))
theorem V.lor {M : MD} {d pc : Nat} {ls : List (Option MV)} {st : List MV} {h : MH} {sz kc ks : Nat} {Q : QT} {x y : Int} (z : Int) (hd : decode M.2.1 pc = .ok (.lor, 1)) (hz : i64 x → i64 y → Int64.ofInt x ||| Int64.ofInt y = Int64.ofInt z ∧ i64 z) (k : V M d (pc + 1) ls (vL z :: st) h sz kc ks Q) : V M d pc ls (vL y :: vL x :: st) h sz kc ks Q := by
  refine V.st (pc2 := (pc + 1)) (st2 := vL z :: st) ?_ ?_ k
  · intro p l e R s m args below meth c Z E H locs cells slots lv hx hb hst k
    refine lv_lor hx hb hd ?_
    rw [(hz (okh (okt hst)) (okh hst)).1]; exact k
  · intro hst
    exact okp (hz (okh (okt hst)) (okh hst)).2 (okt (okt hst))
theorem V.ishl {M : MD} {d pc : Nat} {ls : List (Option MV)} {st : List MV} {h : MH} {sz kc ks : Nat} {Q : QT} {x y : Int} (z : Int) (hd : decode M.2.1 pc = .ok (.ishl, 1)) (hz : i32 x → i32 y → Int32.ofInt x <<< (Int32.ofInt y &&& 31) = Int32.ofInt z ∧ i32 z) (k : V M d (pc + 1) ls (vI z :: st) h sz kc ks Q) : V M d pc ls (vI y :: vI x :: st) h sz kc ks Q := by
  refine V.st (pc2 := (pc + 1)) (st2 := vI z :: st) ?_ ?_ k
  · intro p l e R s m args below meth c Z E H locs cells slots lv hx hb hst k
    refine lv_ishl hx hb hd ?_
    rw [(hz (okh (okt hst)) (okh hst)).1]; exact k
  · intro hst
    exact okp (hz (okh (okt hst)) (okh hst)).2 (okt (okt hst))
theorem V.ishr {M : MD} {d pc : Nat} {ls : List (Option MV)} {st : List MV} {h : MH} {sz kc ks : Nat} {Q : QT} {x y : Int} (z : Int) (hd : decode M.2.1 pc = .ok (.ishr, 1)) (hz : i32 x → i32 y → Int32.ofInt x >>> (Int32.ofInt y &&& 31) = Int32.ofInt z ∧ i32 z) (k : V M d (pc + 1) ls (vI z :: st) h sz kc ks Q) : V M d pc ls (vI y :: vI x :: st) h sz kc ks Q := by
  refine V.st (pc2 := (pc + 1)) (st2 := vI z :: st) ?_ ?_ k
  · intro p l e R s m args below meth c Z E H locs cells slots lv hx hb hst k
    refine lv_ishr hx hb hd ?_
    rw [(hz (okh (okt hst)) (okh hst)).1]; exact k
  · intro hst
    exact okp (hz (okh (okt hst)) (okh hst)).2 (okt (okt hst))
theorem V.lshl {M : MD} {d pc : Nat} {ls : List (Option MV)} {st : List MV} {h : MH} {sz kc ks : Nat} {Q : QT} {x y : Int} (z : Int) (hd : decode M.2.1 pc = .ok (.lshl, 1)) (hz : i64 x → i32 y → Int64.ofInt x <<< (Int64.ofInt y &&& 63) = Int64.ofInt z ∧ i64 z) (k : V M d (pc + 1) ls (vL z :: st) h sz kc ks Q) : V M d pc ls (vI y :: vL x :: st) h sz kc ks Q := by
  refine V.st (pc2 := (pc + 1)) (st2 := vL z :: st) ?_ ?_ k
  · intro p l e R s m args below meth c Z E H locs cells slots lv hx hb hst k
    refine lv_lshl hx hb hd ?_ k
    rw [i32_wide (okh hst)]; exact (hz (okh (okt hst)) (okh hst)).1
  · intro hst
    exact okp (hz (okh (okt hst)) (okh hst)).2 (okt (okt hst))
theorem V.lshr {M : MD} {d pc : Nat} {ls : List (Option MV)} {st : List MV} {h : MH} {sz kc ks : Nat} {Q : QT} {x y : Int} (z : Int) (hd : decode M.2.1 pc = .ok (.lshr, 1)) (hz : i64 x → i32 y → Int64.ofInt x >>> (Int64.ofInt y &&& 63) = Int64.ofInt z ∧ i64 z) (k : V M d (pc + 1) ls (vL z :: st) h sz kc ks Q) : V M d pc ls (vI y :: vL x :: st) h sz kc ks Q := by
  refine V.st (pc2 := (pc + 1)) (st2 := vL z :: st) ?_ ?_ k
  · intro p l e R s m args below meth c Z E H locs cells slots lv hx hb hst k
    refine lv_lshr hx hb hd ?_ k
    rw [i32_wide (okh hst)]; exact (hz (okh (okt hst)) (okh hst)).1
  · intro hst
    exact okp (hz (okh (okt hst)) (okh hst)).2 (okt (okt hst))
theorem V.lushr {M : MD} {d pc : Nat} {ls : List (Option MV)} {st : List MV} {h : MH} {sz kc ks : Nat} {Q : QT} {x y : Int} (z : Int) (hd : decode M.2.1 pc = .ok (.lushr, 1)) (hz : i64 x → i32 y → ((Int64.ofInt x).toUInt64 >>> ((Int64.ofInt y).toUInt64 &&& Int64.toUInt64 63)).toInt64 = Int64.ofInt z ∧ i64 z) (k : V M d (pc + 1) ls (vL z :: st) h sz kc ks Q) : V M d pc ls (vI y :: vL x :: st) h sz kc ks Q := by
  refine V.st (pc2 := (pc + 1)) (st2 := vL z :: st) ?_ ?_ k
  · intro p l e R s m args below meth c Z E H locs cells slots lv hx hb hst k
    refine lv_lushr hx hb hd ?_ k
    rw [i32_wide (okh hst)]; exact (hz (okh (okt hst)) (okh hst)).1
  · intro hst
    exact okp (hz (okh (okt hst)) (okh hst)).2 (okt (okt hst))
theorem V.i2l {M : MD} {d pc : Nat} {ls : List (Option MV)} {st : List MV} {h : MH} {sz kc ks : Nat} {Q : QT} {x : Int} (hd : decode M.2.1 pc = .ok (.i2l, 1)) (k : V M d (pc + 1) ls (vL x :: st) h sz kc ks Q) : V M d pc ls (vI x :: st) h sz kc ks Q := by
  refine V.st (pc2 := (pc + 1)) (st2 := vL x :: st) ?_ ?_ k
  · intro p l e R s m args below meth c Z E H locs cells slots lv hx hb hst k
    exact lv_i2l hx hb hd (i32_wide (okh hst)) k
  · intro hst
    exact okp (v := vL x) (i32_i64 (okh hst)) (okt hst)
theorem V.l2i {M : MD} {d pc : Nat} {ls : List (Option MV)} {st : List MV} {h : MH} {sz kc ks : Nat} {Q : QT} {x : Int} (hd : decode M.2.1 pc = .ok (.l2i, 1)) (hz : i32 x) (k : V M d (pc + 1) ls (vI x :: st) h sz kc ks Q) : V M d pc ls (vL x :: st) h sz kc ks Q := by
  refine V.st (pc2 := (pc + 1)) (st2 := vI x :: st) ?_ ?_ k
  · intro p l e R s m args below meth c Z E H locs cells slots lv hx hb hst k
    exact lv_l2i hx hb hd i64_nar k
  · intro hst
    exact okp (v := vI x) hz (okt hst)
theorem V.i2b {M : MD} {d pc : Nat} {ls : List (Option MV)} {st : List MV} {h : MH} {sz kc ks : Nat} {Q : QT} {x : Int} (hd : decode M.2.1 pc = .ok (.i2b, 1)) (k : V M d (pc + 1) ls (vI (x.bmod 256) :: st) h sz kc ks Q) : V M d pc ls (vI x :: st) h sz kc ks Q := by
  refine V.st (pc2 := (pc + 1)) (st2 := vI (x.bmod 256) :: st) ?_ ?_ k
  · intro p l e R s m args below meth c Z E H locs cells slots lv hx hb hst k
    exact lv_i2b hx hb hd i32_b k
  · intro hst
    exact okp (v := vI _) (i32_bmod8 x) (okt hst)
theorem V.i2s {M : MD} {d pc : Nat} {ls : List (Option MV)} {st : List MV} {h : MH} {sz kc ks : Nat} {Q : QT} {x : Int} (hd : decode M.2.1 pc = .ok (.i2s, 1)) (k : V M d (pc + 1) ls (vI (x.bmod 65536) :: st) h sz kc ks Q) : V M d pc ls (vI x :: st) h sz kc ks Q := by
  refine V.st (pc2 := (pc + 1)) (st2 := vI (x.bmod 65536) :: st) ?_ ?_ k
  · intro p l e R s m args below meth c Z E H locs cells slots lv hx hb hst k
    exact lv_i2s hx hb hd i32_s k
  · intro hst
    exact okp (v := vI _) (i32_bmod16 x) (okt hst)
theorem V.lcmp {M : MD} {d pc : Nat} {ls : List (Option MV)} {st : List MV} {h : MH} {sz kc ks : Nat} {Q : QT} {x y : Int} (hd : decode M.2.1 pc = .ok (.lcmp, 1)) (k : V M d (pc + 1) ls (vI (lc x y) :: st) h sz kc ks Q) : V M d pc ls (vL y :: vL x :: st) h sz kc ks Q := by
  refine V.st (pc2 := (pc + 1)) (st2 := vI (lc x y) :: st) ?_ ?_ k
  · intro p l e R s m args below meth c Z E H locs cells slots lv hx hb hst k
    refine W.lcmp hx hb hd ?_
    rw [lc_ok (okh (okt hst)) (okh hst)]; exact k
  · intro hst
    exact okp (v := vI _) (lc_rng x y) (okt (okt hst))
theorem V.iconst {M : MD} {d pc : Nat} {ls : List (Option MV)} {st : List MV} {h : MH} {sz kc ks : Nat} {Q : QT} {n : Int} (hd : decode M.2.1 pc = .ok (.iconst n, 1)) (hz : i32 n) (k : V M d (pc + 1) ls (vI n :: st) h sz kc ks Q) : V M d pc ls (st) h sz kc ks Q := by
  refine V.st (pc2 := (pc + 1)) (st2 := vI n :: st) ?_ ?_ k
  · intro p l e R s m args below meth c Z E H locs cells slots lv hx hb hst k
    exact lv_iconst hx hb hd rfl k
  · intro hst
    exact okp (v := vI n) hz hst
theorem V.bipush {M : MD} {d pc : Nat} {ls : List (Option MV)} {st : List MV} {h : MH} {sz kc ks : Nat} {Q : QT} {n : Int} (hd : decode M.2.1 pc = .ok (.bipush n, 2)) (hz : -128 ≤ n ∧ n < 128) (k : V M d (pc + 2) ls (vI n :: st) h sz kc ks Q) : V M d pc ls (st) h sz kc ks Q := by
  refine V.st (pc2 := (pc + 2)) (st2 := vI n :: st) ?_ ?_ k
  · intro p l e R s m args below meth c Z E H locs cells slots lv hx hb hst k
    exact lv_bipush hx hb hd (Int8.toInt32_ofInt (by show (-128 : Int) ≤ n; exact hz.1) (by show n ≤ (127 : Int); omega)) k
  · intro hst
    exact okp (v := vI n) (by unfold okV i32; omega) hst
theorem V.sipush {M : MD} {d pc : Nat} {ls : List (Option MV)} {st : List MV} {h : MH} {sz kc ks : Nat} {Q : QT} {n : Int} (hd : decode M.2.1 pc = .ok (.sipush n, 3)) (hz : -32768 ≤ n ∧ n < 32768) (k : V M d (pc + 3) ls (vI n :: st) h sz kc ks Q) : V M d pc ls (st) h sz kc ks Q := by
  refine V.st (pc2 := (pc + 3)) (st2 := vI n :: st) ?_ ?_ k
  · intro p l e R s m args below meth c Z E H locs cells slots lv hx hb hst k
    exact lv_sipush hx hb hd (Int16.toInt32_ofInt (by show (-32768 : Int) ≤ n; exact hz.1) (by show n ≤ (32767 : Int); omega)) k
  · intro hst
    exact okp (v := vI n) (by unfold okV i32; omega) hst
theorem V.lconst0 {M : MD} {d pc : Nat} {ls : List (Option MV)} {st : List MV} {h : MH} {sz kc ks : Nat} {Q : QT} (hd : decode M.2.1 pc = .ok (.lconst 0, 1)) (k : V M d (pc + 1) ls (vL 0 :: st) h sz kc ks Q) : V M d pc ls (st) h sz kc ks Q := by
  refine V.st (pc2 := (pc + 1)) (st2 := vL 0 :: st) ?_ ?_ k
  · intro p l e R s m args below meth c Z E H locs cells slots lv hx hb hst k
    exact lv_lconst hx hb hd rfl k
  · intro hst
    exact okp (v := vL 0) (by unfold okV i64; omega) hst
theorem V.lconst1 {M : MD} {d pc : Nat} {ls : List (Option MV)} {st : List MV} {h : MH} {sz kc ks : Nat} {Q : QT} (hd : decode M.2.1 pc = .ok (.lconst 1, 1)) (k : V M d (pc + 1) ls (vL 1 :: st) h sz kc ks Q) : V M d pc ls (st) h sz kc ks Q := by
  refine V.st (pc2 := (pc + 1)) (st2 := vL 1 :: st) ?_ ?_ k
  · intro p l e R s m args below meth c Z E H locs cells slots lv hx hb hst k
    exact lv_lconst hx hb hd rfl k
  · intro hst
    exact okp (v := vL 1) (by unfold okV i64; omega) hst
theorem V.anull {M : MD} {d pc : Nat} {ls : List (Option MV)} {st : List MV} {h : MH} {sz kc ks : Nat} {Q : QT} (hd : decode M.2.1 pc = .ok (.aconst_null, 1)) (k : V M d (pc + 1) ls (vN :: st) h sz kc ks Q) : V M d pc ls (st) h sz kc ks Q := by
  refine V.st (pc2 := (pc + 1)) (st2 := vN :: st) ?_ ?_ k
  · intro p l e R s m args below meth c Z E H locs cells slots lv hx hb hst k
    exact lv_null hx hb hd k
  · intro hst
    exact okp (v := vN) trivial hst
theorem V.dup {M : MD} {d pc : Nat} {ls : List (Option MV)} {st : List MV} {h : MH} {sz kc ks : Nat} {Q : QT} {v : MV} (hd : decode M.2.1 pc = .ok (.dup, 1)) (hc : ∀ E, (cv E v).category = 1) (k : V M d (pc + 1) ls (v :: v :: st) h sz kc ks Q) : V M d pc ls (v :: st) h sz kc ks Q := by
  refine V.st (pc2 := (pc + 1)) (st2 := v :: v :: st) ?_ ?_ k
  · intro p l e R s m args below meth c Z E H locs cells slots lv hx hb hst k
    exact lv_dup hx hb hd (hc E) k
  · intro hst
    exact okp (okh hst) hst
theorem V.dup2 {M : MD} {d pc : Nat} {ls : List (Option MV)} {st : List MV} {h : MH} {sz kc ks : Nat} {Q : QT} {v w : MV} (hd : decode M.2.1 pc = .ok (.dup2, 1)) (hc : ∀ E, (cv E v).category = 1) (hc2 : ∀ E, (cv E w).category = 1) (k : V M d (pc + 1) ls (v :: w :: v :: w :: st) h sz kc ks Q) : V M d pc ls (v :: w :: st) h sz kc ks Q := by
  refine V.st (pc2 := (pc + 1)) (st2 := v :: w :: v :: w :: st) ?_ ?_ k
  · intro p l e R s m args below meth c Z E H locs cells slots lv hx hb hst k
    exact lv_dup2_11 hx hb hd (hc E) (hc2 E) k
  · intro hst
    exact okp (okh hst) (okp (okh (okt hst)) hst)
theorem V.pop {M : MD} {d pc : Nat} {ls : List (Option MV)} {st : List MV} {h : MH} {sz kc ks : Nat} {Q : QT} {v : MV} (hd : decode M.2.1 pc = .ok (.pop, 1)) (hc : ∀ E, (cv E v).category = 1) (k : V M d (pc + 1) ls (st) h sz kc ks Q) : V M d pc ls (v :: st) h sz kc ks Q := by
  refine V.st (pc2 := (pc + 1)) (st2 := st) ?_ ?_ k
  · intro p l e R s m args below meth c Z E H locs cells slots lv hx hb hst k
    exact lv_pop hx hb hd (hc E) k
  · intro hst
    exact okt hst
theorem V.goto {M : MD} {d pc : Nat} {ls : List (Option MV)} {st : List MV} {h : MH} {sz kc ks : Nat} {Q : QT} {off : Int} {tgt : Nat} (hd : decode M.2.1 pc = .ok (.goto off, 3)) (ht : (pc : Int) + off = (tgt : Int)) (k : V M d tgt ls (st) h sz kc ks Q) : V M d pc ls (st) h sz kc ks Q := by
  refine V.st (pc2 := tgt) (st2 := st) ?_ ?_ k
  · intro p l e R s m args below meth c Z E H locs cells slots lv hx hb hst k
    exact lv_goto hx hb hd ht k
  · intro hst
    exact hst
/-! RULES: branches -/
theorem V.icmp_eq {M : MD} {d pc : Nat} {ls : List (Option MV)} {st : List MV} {h : MH} {sz kc ks : Nat} {Q : QT} {x y : Int} {off : Int} {tgt : Nat} (hd : decode M.2.1 pc = .ok (.if_icmp .eq off, 3)) (ht : (pc : Int) + off = (tgt : Int)) (kt : x = y → V M d tgt ls st h sz kc ks Q) (kf : x ≠ y → V M d (pc + 3) ls st h sz kc ks Q) : V M d pc ls (vI y :: vI x :: st) h sz kc ks Q := by
  intro p l e R s m args below meth c Z E F cM sM C H locs cells slots lv hR hF hS hL hst h1 h2
  obtain ⟨⟨hx, hb, hml, hown, hnm⟩, hSF, hFF, hrm, hret⟩ := id C
  have hyy : i32 y := okh hst
  have hxx : i32 x := okh (okt hst)
  refine lv_icmp_eq hx hb hd ht (fun cc => ?_) (fun cc => ?_)
  · exact kt (by simp only [i32_eq hxx hyy, ne_eq] at cc ⊢; omega) p l e R s m args below meth c Z E F cM sM C H locs cells slots lv hR hF hS hL (okt (okt hst)) h1 h2
  · exact kf (by simp only [i32_eq hxx hyy, ne_eq] at cc ⊢; omega) p l e R s m args below meth c Z E F cM sM C H locs cells slots lv hR hF hS hL (okt (okt hst)) h1 h2
theorem V.if_eq {M : MD} {d pc : Nat} {ls : List (Option MV)} {st : List MV} {h : MH} {sz kc ks : Nat} {Q : QT} {x : Int} {off : Int} {tgt : Nat} (hd : decode M.2.1 pc = .ok (.ifCond .eq off, 3)) (ht : (pc : Int) + off = (tgt : Int)) (kt : x = 0 → V M d tgt ls st h sz kc ks Q) (kf : x ≠ 0 → V M d (pc + 3) ls st h sz kc ks Q) : V M d pc ls (vI x :: st) h sz kc ks Q := by
  intro p l e R s m args below meth c Z E F cM sM C H locs cells slots lv hR hF hS hL hst h1 h2
  obtain ⟨⟨hx, hb, hml, hown, hnm⟩, hSF, hFF, hrm, hret⟩ := id C
  have hxx : i32 x := okh hst
  refine lv_if_eq hx hb hd ht (fun cc => ?_) (fun cc => ?_)
  · rw [show (0 : Int32) = Int32.ofInt 0 from rfl] at cc
    exact kt (by simp only [i32_eq hxx i32_0, ne_eq] at cc ⊢; omega) p l e R s m args below meth c Z E F cM sM C H locs cells slots lv hR hF hS hL (okt hst) h1 h2
  · rw [show (0 : Int32) = Int32.ofInt 0 from rfl] at cc
    exact kf (by simp only [i32_eq hxx i32_0, ne_eq] at cc ⊢; omega) p l e R s m args below meth c Z E F cM sM C H locs cells slots lv hR hF hS hL (okt hst) h1 h2
theorem V.icmp_ne {M : MD} {d pc : Nat} {ls : List (Option MV)} {st : List MV} {h : MH} {sz kc ks : Nat} {Q : QT} {x y : Int} {off : Int} {tgt : Nat} (hd : decode M.2.1 pc = .ok (.if_icmp .ne off, 3)) (ht : (pc : Int) + off = (tgt : Int)) (kt : x ≠ y → V M d tgt ls st h sz kc ks Q) (kf : x = y → V M d (pc + 3) ls st h sz kc ks Q) : V M d pc ls (vI y :: vI x :: st) h sz kc ks Q := by
  intro p l e R s m args below meth c Z E F cM sM C H locs cells slots lv hR hF hS hL hst h1 h2
  obtain ⟨⟨hx, hb, hml, hown, hnm⟩, hSF, hFF, hrm, hret⟩ := id C
  have hyy : i32 y := okh hst
  have hxx : i32 x := okh (okt hst)
  refine lv_icmp_ne hx hb hd ht (fun cc => ?_) (fun cc => ?_)
  · exact kt (by simp only [i32_eq hxx hyy, ne_eq] at cc ⊢; omega) p l e R s m args below meth c Z E F cM sM C H locs cells slots lv hR hF hS hL (okt (okt hst)) h1 h2
  · exact kf (by simp only [i32_eq hxx hyy, ne_eq] at cc ⊢; omega) p l e R s m args below meth c Z E F cM sM C H locs cells slots lv hR hF hS hL (okt (okt hst)) h1 h2
theorem V.if_ne {M : MD} {d pc : Nat} {ls : List (Option MV)} {st : List MV} {h : MH} {sz kc ks : Nat} {Q : QT} {x : Int} {off : Int} {tgt : Nat} (hd : decode M.2.1 pc = .ok (.ifCond .ne off, 3)) (ht : (pc : Int) + off = (tgt : Int)) (kt : x ≠ 0 → V M d tgt ls st h sz kc ks Q) (kf : x = 0 → V M d (pc + 3) ls st h sz kc ks Q) : V M d pc ls (vI x :: st) h sz kc ks Q := by
  intro p l e R s m args below meth c Z E F cM sM C H locs cells slots lv hR hF hS hL hst h1 h2
  obtain ⟨⟨hx, hb, hml, hown, hnm⟩, hSF, hFF, hrm, hret⟩ := id C
  have hxx : i32 x := okh hst
  refine lv_if_ne hx hb hd ht (fun cc => ?_) (fun cc => ?_)
  · rw [show (0 : Int32) = Int32.ofInt 0 from rfl] at cc
    exact kt (by simp only [i32_eq hxx i32_0, ne_eq] at cc ⊢; omega) p l e R s m args below meth c Z E F cM sM C H locs cells slots lv hR hF hS hL (okt hst) h1 h2
  · rw [show (0 : Int32) = Int32.ofInt 0 from rfl] at cc
    exact kf (by simp only [i32_eq hxx i32_0, ne_eq] at cc ⊢; omega) p l e R s m args below meth c Z E F cM sM C H locs cells slots lv hR hF hS hL (okt hst) h1 h2
theorem V.icmp_lt {M : MD} {d pc : Nat} {ls : List (Option MV)} {st : List MV} {h : MH} {sz kc ks : Nat} {Q : QT} {x y : Int} {off : Int} {tgt : Nat} (hd : decode M.2.1 pc = .ok (.if_icmp .lt off, 3)) (ht : (pc : Int) + off = (tgt : Int)) (kt : x < y → V M d tgt ls st h sz kc ks Q) (kf : y ≤ x → V M d (pc + 3) ls st h sz kc ks Q) : V M d pc ls (vI y :: vI x :: st) h sz kc ks Q := by
  intro p l e R s m args below meth c Z E F cM sM C H locs cells slots lv hR hF hS hL hst h1 h2
  obtain ⟨⟨hx, hb, hml, hown, hnm⟩, hSF, hFF, hrm, hret⟩ := id C
  have hyy : i32 y := okh hst
  have hxx : i32 x := okh (okt hst)
  refine lv_icmp_lt hx hb hd ht (fun cc => ?_) (fun cc => ?_)
  · exact kt (by simp only [i32_lt hxx hyy, ne_eq] at cc ⊢; omega) p l e R s m args below meth c Z E F cM sM C H locs cells slots lv hR hF hS hL (okt (okt hst)) h1 h2
  · exact kf (by simp only [i32_lt hxx hyy, ne_eq] at cc ⊢; omega) p l e R s m args below meth c Z E F cM sM C H locs cells slots lv hR hF hS hL (okt (okt hst)) h1 h2
theorem V.if_lt {M : MD} {d pc : Nat} {ls : List (Option MV)} {st : List MV} {h : MH} {sz kc ks : Nat} {Q : QT} {x : Int} {off : Int} {tgt : Nat} (hd : decode M.2.1 pc = .ok (.ifCond .lt off, 3)) (ht : (pc : Int) + off = (tgt : Int)) (kt : x < 0 → V M d tgt ls st h sz kc ks Q) (kf : 0 ≤ x → V M d (pc + 3) ls st h sz kc ks Q) : V M d pc ls (vI x :: st) h sz kc ks Q := by
  intro p l e R s m args below meth c Z E F cM sM C H locs cells slots lv hR hF hS hL hst h1 h2
  obtain ⟨⟨hx, hb, hml, hown, hnm⟩, hSF, hFF, hrm, hret⟩ := id C
  have hxx : i32 x := okh hst
  refine lv_if_lt hx hb hd ht (fun cc => ?_) (fun cc => ?_)
  · rw [show (0 : Int32) = Int32.ofInt 0 from rfl] at cc
    exact kt (by simp only [i32_lt hxx i32_0, ne_eq] at cc ⊢; omega) p l e R s m args below meth c Z E F cM sM C H locs cells slots lv hR hF hS hL (okt hst) h1 h2
  · rw [show (0 : Int32) = Int32.ofInt 0 from rfl] at cc
    exact kf (by simp only [i32_lt hxx i32_0, ne_eq] at cc ⊢; omega) p l e R s m args below meth c Z E F cM sM C H locs cells slots lv hR hF hS hL (okt hst) h1 h2
theorem V.icmp_ge {M : MD} {d pc : Nat} {ls : List (Option MV)} {st : List MV} {h : MH} {sz kc ks : Nat} {Q : QT} {x y : Int} {off : Int} {tgt : Nat} (hd : decode M.2.1 pc = .ok (.if_icmp .ge off, 3)) (ht : (pc : Int) + off = (tgt : Int)) (kt : y ≤ x → V M d tgt ls st h sz kc ks Q) (kf : x < y → V M d (pc + 3) ls st h sz kc ks Q) : V M d pc ls (vI y :: vI x :: st) h sz kc ks Q := by
  intro p l e R s m args below meth c Z E F cM sM C H locs cells slots lv hR hF hS hL hst h1 h2
  obtain ⟨⟨hx, hb, hml, hown, hnm⟩, hSF, hFF, hrm, hret⟩ := id C
  have hyy : i32 y := okh hst
  have hxx : i32 x := okh (okt hst)
  refine lv_icmp_ge hx hb hd ht (fun cc => ?_) (fun cc => ?_)
  · exact kt (by simp only [i32_le hyy hxx, ne_eq] at cc ⊢; omega) p l e R s m args below meth c Z E F cM sM C H locs cells slots lv hR hF hS hL (okt (okt hst)) h1 h2
  · exact kf (by simp only [i32_le hyy hxx, ne_eq] at cc ⊢; omega) p l e R s m args below meth c Z E F cM sM C H locs cells slots lv hR hF hS hL (okt (okt hst)) h1 h2
theorem V.if_ge {M : MD} {d pc : Nat} {ls : List (Option MV)} {st : List MV} {h : MH} {sz kc ks : Nat} {Q : QT} {x : Int} {off : Int} {tgt : Nat} (hd : decode M.2.1 pc = .ok (.ifCond .ge off, 3)) (ht : (pc : Int) + off = (tgt : Int)) (kt : 0 ≤ x → V M d tgt ls st h sz kc ks Q) (kf : x < 0 → V M d (pc + 3) ls st h sz kc ks Q) : V M d pc ls (vI x :: st) h sz kc ks Q := by
  intro p l e R s m args below meth c Z E F cM sM C H locs cells slots lv hR hF hS hL hst h1 h2
  obtain ⟨⟨hx, hb, hml, hown, hnm⟩, hSF, hFF, hrm, hret⟩ := id C
  have hxx : i32 x := okh hst
  refine lv_if_ge hx hb hd ht (fun cc => ?_) (fun cc => ?_)
  · rw [show (0 : Int32) = Int32.ofInt 0 from rfl] at cc
    exact kt (by simp only [i32_le i32_0 hxx, ne_eq] at cc ⊢; omega) p l e R s m args below meth c Z E F cM sM C H locs cells slots lv hR hF hS hL (okt hst) h1 h2
  · rw [show (0 : Int32) = Int32.ofInt 0 from rfl] at cc
    exact kf (by simp only [i32_le i32_0 hxx, ne_eq] at cc ⊢; omega) p l e R s m args below meth c Z E F cM sM C H locs cells slots lv hR hF hS hL (okt hst) h1 h2
theorem V.icmp_gt {M : MD} {d pc : Nat} {ls : List (Option MV)} {st : List MV} {h : MH} {sz kc ks : Nat} {Q : QT} {x y : Int} {off : Int} {tgt : Nat} (hd : decode M.2.1 pc = .ok (.if_icmp .gt off, 3)) (ht : (pc : Int) + off = (tgt : Int)) (kt : y < x → V M d tgt ls st h sz kc ks Q) (kf : x ≤ y → V M d (pc + 3) ls st h sz kc ks Q) : V M d pc ls (vI y :: vI x :: st) h sz kc ks Q := by
  intro p l e R s m args below meth c Z E F cM sM C H locs cells slots lv hR hF hS hL hst h1 h2
  obtain ⟨⟨hx, hb, hml, hown, hnm⟩, hSF, hFF, hrm, hret⟩ := id C
  have hyy : i32 y := okh hst
  have hxx : i32 x := okh (okt hst)
  refine lv_icmp_gt hx hb hd ht (fun cc => ?_) (fun cc => ?_)
  · exact kt (by simp only [i32_lt hyy hxx, ne_eq] at cc ⊢; omega) p l e R s m args below meth c Z E F cM sM C H locs cells slots lv hR hF hS hL (okt (okt hst)) h1 h2
  · exact kf (by simp only [i32_lt hyy hxx, ne_eq] at cc ⊢; omega) p l e R s m args below meth c Z E F cM sM C H locs cells slots lv hR hF hS hL (okt (okt hst)) h1 h2
theorem V.if_gt {M : MD} {d pc : Nat} {ls : List (Option MV)} {st : List MV} {h : MH} {sz kc ks : Nat} {Q : QT} {x : Int} {off : Int} {tgt : Nat} (hd : decode M.2.1 pc = .ok (.ifCond .gt off, 3)) (ht : (pc : Int) + off = (tgt : Int)) (kt : 0 < x → V M d tgt ls st h sz kc ks Q) (kf : x ≤ 0 → V M d (pc + 3) ls st h sz kc ks Q) : V M d pc ls (vI x :: st) h sz kc ks Q := by
  intro p l e R s m args below meth c Z E F cM sM C H locs cells slots lv hR hF hS hL hst h1 h2
  obtain ⟨⟨hx, hb, hml, hown, hnm⟩, hSF, hFF, hrm, hret⟩ := id C
  have hxx : i32 x := okh hst
  refine lv_if_gt hx hb hd ht (fun cc => ?_) (fun cc => ?_)
  · rw [show (0 : Int32) = Int32.ofInt 0 from rfl] at cc
    exact kt (by simp only [i32_lt i32_0 hxx, ne_eq] at cc ⊢; omega) p l e R s m args below meth c Z E F cM sM C H locs cells slots lv hR hF hS hL (okt hst) h1 h2
  · rw [show (0 : Int32) = Int32.ofInt 0 from rfl] at cc
    exact kf (by simp only [i32_lt i32_0 hxx, ne_eq] at cc ⊢; omega) p l e R s m args below meth c Z E F cM sM C H locs cells slots lv hR hF hS hL (okt hst) h1 h2
theorem V.icmp_le {M : MD} {d pc : Nat} {ls : List (Option MV)} {st : List MV} {h : MH} {sz kc ks : Nat} {Q : QT} {x y : Int} {off : Int} {tgt : Nat} (hd : decode M.2.1 pc = .ok (.if_icmp .le off, 3)) (ht : (pc : Int) + off = (tgt : Int)) (kt : x ≤ y → V M d tgt ls st h sz kc ks Q) (kf : y < x → V M d (pc + 3) ls st h sz kc ks Q) : V M d pc ls (vI y :: vI x :: st) h sz kc ks Q := by
  intro p l e R s m args below meth c Z E F cM sM C H locs cells slots lv hR hF hS hL hst h1 h2
  obtain ⟨⟨hx, hb, hml, hown, hnm⟩, hSF, hFF, hrm, hret⟩ := id C
  have hyy : i32 y := okh hst
  have hxx : i32 x := okh (okt hst)
  refine lv_icmp_le hx hb hd ht (fun cc => ?_) (fun cc => ?_)
  · exact kt (by simp only [i32_le hxx hyy, ne_eq] at cc ⊢; omega) p l e R s m args below meth c Z E F cM sM C H locs cells slots lv hR hF hS hL (okt (okt hst)) h1 h2
  · exact kf (by simp only [i32_le hxx hyy, ne_eq] at cc ⊢; omega) p l e R s m args below meth c Z E F cM sM C H locs cells slots lv hR hF hS hL (okt (okt hst)) h1 h2
theorem V.if_le {M : MD} {d pc : Nat} {ls : List (Option MV)} {st : List MV} {h : MH} {sz kc ks : Nat} {Q : QT} {x : Int} {off : Int} {tgt : Nat} (hd : decode M.2.1 pc = .ok (.ifCond .le off, 3)) (ht : (pc : Int) + off = (tgt : Int)) (kt : x ≤ 0 → V M d tgt ls st h sz kc ks Q) (kf : 0 < x → V M d (pc + 3) ls st h sz kc ks Q) : V M d pc ls (vI x :: st) h sz kc ks Q := by
  intro p l e R s m args below meth c Z E F cM sM C H locs cells slots lv hR hF hS hL hst h1 h2
  obtain ⟨⟨hx, hb, hml, hown, hnm⟩, hSF, hFF, hrm, hret⟩ := id C
  have hxx : i32 x := okh hst
  refine lv_if_le hx hb hd ht (fun cc => ?_) (fun cc => ?_)
  · rw [show (0 : Int32) = Int32.ofInt 0 from rfl] at cc
    exact kt (by simp only [i32_le hxx i32_0, ne_eq] at cc ⊢; omega) p l e R s m args below meth c Z E F cM sM C H locs cells slots lv hR hF hS hL (okt hst) h1 h2
  · rw [show (0 : Int32) = Int32.ofInt 0 from rfl] at cc
    exact kf (by simp only [i32_le hxx i32_0, ne_eq] at cc ⊢; omega) p l e R s m args below meth c Z E F cM sM C H locs cells slots lv hR hF hS hL (okt hst) h1 h2
theorem V.ifnull {M : MD} {d pc : Nat} {ls : List (Option MV)} {st : List MV} {h : MH} {sz kc ks : Nat} {Q : QT} {o : Option Nat} {off : Int} {tgt : Nat} (hd : decode M.2.1 pc = .ok (.ifnull off, 3)) (ht : (pc : Int) + off = (tgt : Int)) (kt : o = none → V M d tgt ls st h sz kc ks Q) (kf : ∀ a, o = some a → V M d (pc + 3) ls st h sz kc ks Q) : V M d pc ls (vQ o :: st) h sz kc ks Q := by
  intro p l e R s m args below meth c Z E F cM sM C H locs cells slots lv hR hF hS hL hst h1 h2
  obtain ⟨⟨hx, hb, hml, hown, hnm⟩, hSF, hFF, hrm, hret⟩ := id C
  cases o with
  | none => exact lv_ifnullN hx hb hd ht (kt rfl p l e R s m args below meth c Z E F cM sM C H locs cells slots lv hR hF hS hL (okt hst) h1 h2)
  | some a => exact lv_ifnull hx hb hd (kf a rfl p l e R s m args below meth c Z E F cM sM C H locs cells slots lv hR hF hS hL (okt hst) h1 h2)
theorem V.ifnonnull {M : MD} {d pc : Nat} {ls : List (Option MV)} {st : List MV} {h : MH} {sz kc ks : Nat} {Q : QT} {o : Option Nat} {off : Int} {tgt : Nat} (hd : decode M.2.1 pc = .ok (.ifnonnull off, 3)) (ht : (pc : Int) + off = (tgt : Int)) (kt : ∀ a, o = some a → V M d tgt ls st h sz kc ks Q) (kf : o = none → V M d (pc + 3) ls st h sz kc ks Q) : V M d pc ls (vQ o :: st) h sz kc ks Q := by
  intro p l e R s m args below meth c Z E F cM sM C H locs cells slots lv hR hF hS hL hst h1 h2
  obtain ⟨⟨hx, hb, hml, hown, hnm⟩, hSF, hFF, hrm, hret⟩ := id C
  cases o with
  | none => exact lv_ifnonnullN hx hb hd (kf rfl p l e R s m args below meth c Z E F cM sM C H locs cells slots lv hR hF hS hL (okt hst) h1 h2)
  | some a => exact lv_ifnonnull hx hb hd ht (kt a rfl p l e R s m args below meth c Z E F cM sM C H locs cells slots lv hR hF hS hL (okt hst) h1 h2)
theorem V.tswIn {M : MD} {d pc : Nat} {ls : List (Option MV)} {st : List MV} {h : MH} {sz kc ks : Nat} {Q : QT} {x : Int} {dflt lo hi : Int} {offs : Array Int} {len : Nat} {off : Int} {tgt : Nat} (hd : decode M.2.1 pc = .ok (.tableswitch dflt lo hi offs, len)) (hx1 : lo ≤ x) (hx2 : x ≤ hi) (ho : offs[(x - lo).toNat]? = some off) (ht : (pc : Int) + off = (tgt : Int)) (k : V M d tgt ls st h sz kc ks Q) : V M d pc ls (vI x :: st) h sz kc ks Q := by
  intro p l e R s m args below meth c Z E F cM sM C H locs cells slots lv hR hF hS hL hst h1 h2
  obtain ⟨⟨hx, hb, hml, hown, hnm⟩, hSF, hFF, hrm, hret⟩ := id C
  have hxx : i32 x := okh hst
  exact lv_tableIn hx hb hd (by rw [i32_to hxx]; omega) (by rw [i32_to hxx]; omega) (by rw [i32_to hxx]; exact ho) ht (k p l e R s m args below meth c Z E F cM sM C H locs cells slots lv hR hF hS hL (okt hst) h1 h2)
theorem V.tswOut {M : MD} {d pc : Nat} {ls : List (Option MV)} {st : List MV} {h : MH} {sz kc ks : Nat} {Q : QT} {x : Int} {dflt lo hi : Int} {offs : Array Int} {len : Nat} {tgt : Nat} (hd : decode M.2.1 pc = .ok (.tableswitch dflt lo hi offs, len)) (hx1 : x < lo ∨ hi < x) (ht : (pc : Int) + dflt = (tgt : Int)) (k : V M d tgt ls st h sz kc ks Q) : V M d pc ls (vI x :: st) h sz kc ks Q := by
  intro p l e R s m args below meth c Z E F cM sM C H locs cells slots lv hR hF hS hL hst h1 h2
  obtain ⟨⟨hx, hb, hml, hown, hnm⟩, hSF, hFF, hrm, hret⟩ := id C
  have hxx : i32 x := okh hst
  exact lv_tableOut hx hb hd (by rw [i32_to hxx]; exact hx1) ht (k p l e R s m args below meth c Z E F cM sM C H locs cells slots lv hR hF hS hL (okt hst) h1 h2)
theorem V.lsw {M : MD} {d pc : Nat} {ls : List (Option MV)} {st : List MV} {h : MH} {sz kc ks : Nat} {Q : QT} {x : Int} {dflt : Int} {ps : Array (Int × Int)} {len : Nat} {off : Int} {tgt : Nat} (hd : decode M.2.1 pc = .ok (.lookupswitch dflt ps, len)) (hp : (ps.toList.zip (ps.toList.drop 1)).all (fun (a, next) => a.1 < next.1) = true) (ho : Op.lookupswitch.offset ps.toList dflt x = off) (ht : (pc : Int) + off = (tgt : Int)) (k : V M d tgt ls st h sz kc ks Q) : V M d pc ls (vI x :: st) h sz kc ks Q := by
  intro p l e R s m args below meth c Z E F cM sM C H locs cells slots lv hR hF hS hL hst h1 h2
  obtain ⟨⟨hx, hb, hml, hown, hnm⟩, hSF, hFF, hrm, hret⟩ := id C
  have hxx : i32 x := okh hst
  exact lv_lookup hx hb hd hp (by rw [i32_to hxx]; exact ho) ht (k p l e R s m args below meth c Z E F cM sM C H locs cells slots lv hR hF hS hL (okt hst) h1 h2)
/-- the range of a number on the stack, in a local, is known -/
theorem V.rng {M : MD} {d pc : Nat} {ls : List (Option MV)} {st : List MV} {h : MH} {sz kc ks : Nat} {Q : QT} {x : Int} (k : i32 x → V M d pc ls (vI x :: st) h sz kc ks Q) : V M d pc ls (vI x :: st) h sz kc ks Q := by
  intro p l e R s m args below meth c Z E F cM sM C H locs cells slots lv hR hF hS hL hst h1 h2
  obtain ⟨⟨hx, hb, hml, hown, hnm⟩, hSF, hFF, hrm, hret⟩ := id C
  exact k (okh hst) p l e R s m args below meth c Z E F cM sM C H locs cells slots lv hR hF hS hL hst h1 h2
theorem V.lrng {M : MD} {d pc : Nat} {ls : List (Option MV)} {st : List MV} {h : MH} {sz kc ks : Nat} {Q : QT} {x : Int} (i : Nat) (hi : lk ls i = some (vI x)) (k : i32 x → V M d pc ls st h sz kc ks Q) : V M d pc ls st h sz kc ks Q := by
  intro p l e R s m args below meth c Z E F cM sM C H locs cells slots lv hR hF hS hL hst h1 h2
  obtain ⟨⟨hx, hb, hml, hown, hnm⟩, hSF, hFF, hrm, hret⟩ := id C
  exact k (hL.2.2 i _ hi).2 p l e R s m args below meth c Z E F cM sM C H locs cells slots lv hR hF hS hL hst h1 h2
/-- a cell of the world: what it holds is in range -/
theorem V.hok {M : MD} {d pc : Nat} {ls : List (Option MV)} {st : List MV} {h : MH} {sz kc ks : Nat} {Q : QT} {a : Nat} {c : MC} (ha : h a = some c) (k : okC c → V M d pc ls st h sz kc ks Q) : V M d pc ls st h sz kc ks Q := by
  intro p l e R s m args below meth c Z E F cM sM C H locs cells slots lv hR hF hS hL hst h1 h2
  exact k (hR.2 _ _ ha).1 p l e R s m args below meth c Z E F cM sM C H locs cells slots lv hR hF hS hL hst h1 h2
theorem V.hlt {M : MD} {d pc : Nat} {ls : List (Option MV)} {st : List MV} {h : MH} {sz kc ks : Nat} {Q : QT} {a : Nat} {c : MC} (ha : h a = some c) (k : a < sz → V M d pc ls st h sz kc ks Q) : V M d pc ls st h sz kc ks Q := by
  intro p l e R s m args below meth c Z E F cM sM C H locs cells slots lv hR hF hS hL hst h1 h2
  exact k (hR.lt ha) p l e R s m args below meth c Z E F cM sM C H locs cells slots lv hR hF hS hL hst h1 h2
theorem V.less {M : MD} {d pc : Nat} {ls : List (Option MV)} {st : List MV} {h : MH} {sz kc ks : Nat} {Q : QT} {kc2 ks2 : Nat} (g1 : kc2 ≤ kc) (g2 : ks2 ≤ ks) (k : V M d pc ls st h sz kc2 ks2 Q) : V M d pc ls st h sz kc ks Q := by
  intro p l e R s m args below meth c Z E F cM sM C H locs cells slots lv hR hF hS hL hst h1 h2
  obtain ⟨⟨hx, hb, hml, hown, hnm⟩, hSF, hFF, hrm, hret⟩ := id C
  exact k p l e R s m args below meth c Z E F cM sM C H locs cells slots lv hR hF hS hL hst (by omega) (by omega)
/-! RULES: locals -/
theorem V.iload_n {M : MD} {d pc : Nat} {ls : List (Option MV)} {st : List MV} {h : MH} {sz kc ks : Nat} {Q : QT} {n : Fin 4} {x : Int} (i : Nat) (hd : decode M.2.1 pc = .ok (.iload_n n, 1)) (hn : (n : Nat) = i) (hi : lk ls i = some (vI x)) (k : V M d (pc + 1) ls (vI x :: st) h sz kc ks Q) : V M d pc ls st h sz kc ks Q := by
  intro p l e R s m args below meth c Z E F cM sM C H locs cells slots lv hR hF hS hL hst h1 h2
  obtain ⟨⟨hx, hb, hml, hown, hnm⟩, hSF, hFF, hrm, hret⟩ := id C
  have hq := hL.2.2 i _ hi
  exact lv_iload_n hx hb hd hn hq.1 (k p l e R s m args below meth c Z E F cM sM C H locs cells slots lv hR hF hS hL (okp hq.2 hst) h1 h2)
theorem V.iload {M : MD} {d pc : Nat} {ls : List (Option MV)} {st : List MV} {h : MH} {sz kc ks : Nat} {Q : QT} {x : Int} {i : Nat} (hd : decode M.2.1 pc = .ok (.iload i, 2)) (hi : lk ls i = some (vI x)) (k : V M d (pc + 2) ls (vI x :: st) h sz kc ks Q) : V M d pc ls st h sz kc ks Q := by
  intro p l e R s m args below meth c Z E F cM sM C H locs cells slots lv hR hF hS hL hst h1 h2
  obtain ⟨⟨hx, hb, hml, hown, hnm⟩, hSF, hFF, hrm, hret⟩ := id C
  have hq := hL.2.2 i _ hi
  exact lv_iload hx hb hd hq.1 (k p l e R s m args below meth c Z E F cM sM C H locs cells slots lv hR hF hS hL (okp hq.2 hst) h1 h2)
theorem V.lload_n {M : MD} {d pc : Nat} {ls : List (Option MV)} {st : List MV} {h : MH} {sz kc ks : Nat} {Q : QT} {n : Fin 4} {x : Int} (i : Nat) (hd : decode M.2.1 pc = .ok (.lload_n n, 1)) (hn : (n : Nat) = i) (hi : lk ls i = some (vL x)) (k : V M d (pc + 1) ls (vL x :: st) h sz kc ks Q) : V M d pc ls st h sz kc ks Q := by
  intro p l e R s m args below meth c Z E F cM sM C H locs cells slots lv hR hF hS hL hst h1 h2
  obtain ⟨⟨hx, hb, hml, hown, hnm⟩, hSF, hFF, hrm, hret⟩ := id C
  have hq := hL.2.2 i _ hi
  exact lv_lload_n hx hb hd hn hq.1 (k p l e R s m args below meth c Z E F cM sM C H locs cells slots lv hR hF hS hL (okp hq.2 hst) h1 h2)
theorem V.lload {M : MD} {d pc : Nat} {ls : List (Option MV)} {st : List MV} {h : MH} {sz kc ks : Nat} {Q : QT} {x : Int} {i : Nat} (hd : decode M.2.1 pc = .ok (.lload i, 2)) (hi : lk ls i = some (vL x)) (k : V M d (pc + 2) ls (vL x :: st) h sz kc ks Q) : V M d pc ls st h sz kc ks Q := by
  intro p l e R s m args below meth c Z E F cM sM C H locs cells slots lv hR hF hS hL hst h1 h2
  obtain ⟨⟨hx, hb, hml, hown, hnm⟩, hSF, hFF, hrm, hret⟩ := id C
  have hq := hL.2.2 i _ hi
  exact lv_lload hx hb hd hq.1 (k p l e R s m args below meth c Z E F cM sM C H locs cells slots lv hR hF hS hL (okp hq.2 hst) h1 h2)
theorem V.aload_n {M : MD} {d pc : Nat} {ls : List (Option MV)} {st : List MV} {h : MH} {sz kc ks : Nat} {Q : QT} {n : Fin 4} {w : Option Nat ⊕ Nat} (i : Nat) (hd : decode M.2.1 pc = .ok (.aload_n n, 1)) (hn : (n : Nat) = i) (hi : lk ls i = some (.inr (.inr w))) (k : V M d (pc + 1) ls (.inr (.inr w) :: st) h sz kc ks Q) : V M d pc ls st h sz kc ks Q := by
  intro p l e R s m args below meth c Z E F cM sM C H locs cells slots lv hR hF hS hL hst h1 h2
  obtain ⟨⟨hx, hb, hml, hown, hnm⟩, hSF, hFF, hrm, hret⟩ := id C
  have hq := hL.2.2 i _ hi
  have kk := k p l e R s m args below meth c Z E F cM sM C H locs cells slots lv hR hF hS hL (okp hq.2 hst) h1 h2
  rcases w with (- | a) | a
  · exact lv_aload_nN hx hb hd hn hq.1 kk
  · exact lv_aload_n hx hb hd hn hq.1 kk
  · exact lv_aload_n hx hb hd hn hq.1 kk
theorem V.aload {M : MD} {d pc : Nat} {ls : List (Option MV)} {st : List MV} {h : MH} {sz kc ks : Nat} {Q : QT} {w : Option Nat ⊕ Nat} {i : Nat} (hd : decode M.2.1 pc = .ok (.aload i, 2)) (hi : lk ls i = some (.inr (.inr w))) (k : V M d (pc + 2) ls (.inr (.inr w) :: st) h sz kc ks Q) : V M d pc ls st h sz kc ks Q := by
  intro p l e R s m args below meth c Z E F cM sM C H locs cells slots lv hR hF hS hL hst h1 h2
  obtain ⟨⟨hx, hb, hml, hown, hnm⟩, hSF, hFF, hrm, hret⟩ := id C
  have hq := hL.2.2 i _ hi
  have kk := k p l e R s m args below meth c Z E F cM sM C H locs cells slots lv hR hF hS hL (okp hq.2 hst) h1 h2
  rcases w with (- | a) | a
  · exact lv_aloadN hx hb hd hq.1 kk
  · exact lv_aload hx hb hd hq.1 kk
  · exact lv_aload hx hb hd hq.1 kk
/-- stores: the list with place i set; the place ahead of it holds no long -/
def noL (ls : List (Option MV)) (i : Nat) : Bool := match i with
  | 0 => true
  | j + 1 => match lk ls j with
    | some (.inr (.inl _)) => false
    | _ => true
def put : List (Option MV) → Nat → Option MV → List (Option MV)
  | [], 0, v => [v]
  | [], n + 1, v => none :: put [] n v
  | _ :: l, 0, v => v :: l
  | o :: l, n + 1, v => o :: put l n v
theorem lk_nil : ∀ (j : Nat), lk [] j = none
  | 0 => rfl
  | _ + 1 => rfl
theorem lk_put : ∀ (ls : List (Option MV)) (i j : Nat) (v : Option MV), lk (put ls i v) j = if j = i then v else lk ls j
  | [], 0, 0, v => rfl
  | [], 0, j + 1, v => by simp [put, lk, lk_nil]
  | [], n + 1, 0, v => by simp [put, lk]
  | [], n + 1, j + 1, v => by simp only [put, lk]; rw [lk_put [] n j v]; simp [lk_nil]
  | o :: l, 0, 0, v => rfl
  | o :: l, 0, j + 1, v => by simp [put, lk]
  | o :: l, n + 1, 0, v => by simp [put, lk]
  | o :: l, n + 1, j + 1, v => by simp only [put, lk]; rw [lk_put l n j v]; simp
def lpairs (E : Ev) (ls : List (Option MV)) : List (Nat × Value) := (List.range ls.length).filterMap (fun i => (lk ls i).map (fun v => (i, cv E v)))
theorem lk_lt : ∀ {ls : List (Option MV)} {i : Nat} {v : MV}, lk ls i = some v → i < ls.length
  | [], i, v, h => by rw [lk_nil] at h; cases h
  | o :: l, 0, v, h => Nat.succ_pos _
  | o :: l, n + 1, v, h => Nat.succ_lt_succ (lk_lt (ls := l) h)
theorem lpairs_mem {E : Ev} {ls : List (Option MV)} {i : Nat} {v : MV} (h : lk ls i = some v) : (i, cv E v) ∈ lpairs E ls :=
  List.mem_filterMap.mpr ⟨i, List.mem_range.mpr (lk_lt h), by rw [h]; rfl⟩
theorem lpairs_has {E : Ev} {nL : Nat} {ls : List (Option MV)} {lv : Array Slot} (h : LL E nL ls lv) : lv_has lv nL (lpairs E ls) := by
  refine ⟨h.1, h.2.1, fun q hq => ?_⟩
  obtain ⟨i, -, hi⟩ := List.mem_filterMap.mp hq
  cases hv : lk ls i with
  | none => rw [hv] at hi; cases hi
  | some v => rw [hv] at hi; cases hi; exact (h.2.2 i v hv).1
theorem noL_cat {E : Ev} {ls : List (Option MV)} {i j : Nat} {v : MV} (hn : noL ls i = true) (hj : lk ls j = some v) (hi : j + 1 = i) : ¬ (cv E v).category = 2 := by
  subst hi
  simp only [noL, hj] at hn
  rcases v with z | z | o | k
  · simp [cv, Value.category]
  · simp at hn
  · cases o <;> simp [cv, Value.category]
  · simp [cv, Value.category]
theorem LL_put1 {E : Ev} {nL i : Nat} {ls : List (Option MV)} {lv lv2 : Array Slot} {v : MV} (h : LL E nL ls lv) (hn : noL ls i = true) (hv : okV v) (h2 : lv_has lv2 nL ((i, cv E v) :: (lpairs E ls).filter (fun q => !(q.1 == i) && !(q.1 + 1 == i && q.2.category == 2)))) : LL E nL (put ls i (some v)) lv2 := by
  refine ⟨h2.1, h2.2.1, fun j w hw => ?_⟩
  rw [lk_put] at hw
  by_cases hj : j = i
  · subst hj; rw [if_pos rfl] at hw; cases hw
    exact ⟨h2.2.2 _ List.mem_cons_self, hv⟩
  · rw [if_neg hj] at hw
    refine ⟨h2.2.2 (j, cv E w) (List.mem_cons_of_mem _ (List.mem_filter.mpr ⟨lpairs_mem hw, ?_⟩)), (h.2.2 j w hw).2⟩
    by_cases hji : j + 1 = i
    · have := noL_cat (E := E) hn hw hji
      simp [hj, this]
    · simp [hj, hji]
theorem LL_put2 {E : Ev} {nL i : Nat} {ls : List (Option MV)} {lv lv2 : Array Slot} {v : MV} (h : LL E nL ls lv) (hn : noL ls i = true) (hv : okV v) (h2 : lv_has lv2 nL ((i, cv E v) :: (lpairs E ls).filter (fun q => !(q.1 == i) && (!(q.1 == i + 1) && !(q.1 + 1 == i && q.2.category == 2))))) : LL E nL (put (put ls i (some v)) (i + 1) none) lv2 := by
  refine ⟨h2.1, h2.2.1, fun j w hw => ?_⟩
  rw [lk_put] at hw
  by_cases hj1 : j = i + 1
  · rw [if_pos hj1] at hw; cases hw
  rw [if_neg hj1, lk_put] at hw
  by_cases hj : j = i
  · subst hj; rw [if_pos rfl] at hw; cases hw
    exact ⟨h2.2.2 _ List.mem_cons_self, hv⟩
  · rw [if_neg hj] at hw
    refine ⟨h2.2.2 (j, cv E w) (List.mem_cons_of_mem _ (List.mem_filter.mpr ⟨lpairs_mem hw, ?_⟩)), (h.2.2 j w hw).2⟩
    by_cases hji : j + 1 = i
    · have := noL_cat (E := E) hn hw hji
      simp [hj, hj1, this]
    · simp [hj, hj1, hji]
theorem LL_sub {E : Ev} {nL : Nat} {ls ls2 : List (Option MV)} {lv : Array Slot} (h : LL E nL ls lv) (hs : ∀ i v, lk ls2 i = some v → lk ls i = some v) : LL E nL ls2 lv := ⟨h.1, h.2.1, fun i v hv => h.2.2 i v (hs i v hv)⟩
theorem V.locs {M : MD} {d pc : Nat} {ls : List (Option MV)} {st : List MV} {h : MH} {sz kc ks : Nat} {Q : QT} {ls2 : List (Option MV)} (hs : ∀ i v, lk ls2 i = some v → lk ls i = some v) (k : V M d pc ls2 st h sz kc ks Q) : V M d pc ls st h sz kc ks Q := by
  intro p l e R s m args below meth c Z E F cM sM C H locs cells slots lv hR hF hS hL hst h1 h2
  obtain ⟨⟨hx, hb, hml, hown, hnm⟩, hSF, hFF, hrm, hret⟩ := id C
  exact k p l e R s m args below meth c Z E F cM sM C H locs cells slots lv hR hF hS (LL_sub hL hs) hst h1 h2
theorem V.istore_n {M : MD} {d pc : Nat} {ls : List (Option MV)} {st : List MV} {h : MH} {sz kc ks : Nat} {Q : QT} {n : Fin 4} {x : Int} (i : Nat) (hd : decode M.2.1 pc = .ok (.istore_n n, 1)) (hn : (n : Nat) = i) (hL0 : i < M.2.2.1) (hl : noL ls i = true) (k : V M d (pc + 1) (put ls i (some (vI x))) st h sz kc ks Q) : V M d pc ls (vI x :: st) h sz kc ks Q := by
  intro p l e R s m args below meth c Z E F cM sM C H locs cells slots lv hR hF hS hL hst h1 h2
  obtain ⟨⟨hx, hb, hml, hown, hnm⟩, hSF, hFF, hrm, hret⟩ := id C
  refine lv_istore_n hx hb hd hn (lpairs_has hL) hL0 rfl (fun lv2 hl2 => ?_)
  exact k p l e R s m args below meth c Z E F cM sM C H locs cells slots lv2 hR hF hS (LL_put1 hL hl (okh hst) hl2) (okt hst) h1 h2
theorem V.istore {M : MD} {d pc : Nat} {ls : List (Option MV)} {st : List MV} {h : MH} {sz kc ks : Nat} {Q : QT} {x : Int} {i : Nat} (hd : decode M.2.1 pc = .ok (.istore i, 2)) (hL0 : i < M.2.2.1) (hl : noL ls i = true) (k : V M d (pc + 2) (put ls i (some (vI x))) st h sz kc ks Q) : V M d pc ls (vI x :: st) h sz kc ks Q := by
  intro p l e R s m args below meth c Z E F cM sM C H locs cells slots lv hR hF hS hL hst h1 h2
  obtain ⟨⟨hx, hb, hml, hown, hnm⟩, hSF, hFF, hrm, hret⟩ := id C
  refine lv_istore hx hb hd (lpairs_has hL) hL0 rfl (fun lv2 hl2 => ?_)
  exact k p l e R s m args below meth c Z E F cM sM C H locs cells slots lv2 hR hF hS (LL_put1 hL hl (okh hst) hl2) (okt hst) h1 h2
theorem V.lstore_n {M : MD} {d pc : Nat} {ls : List (Option MV)} {st : List MV} {h : MH} {sz kc ks : Nat} {Q : QT} {n : Fin 4} {x : Int} (i : Nat) (hd : decode M.2.1 pc = .ok (.lstore_n n, 1)) (hn : (n : Nat) = i) (hL0 : i + 1 < M.2.2.1) (hl : noL ls i = true) (k : V M d (pc + 1) (put (put ls i (some (vL x))) (i + 1) none) st h sz kc ks Q) : V M d pc ls (vL x :: st) h sz kc ks Q := by
  intro p l e R s m args below meth c Z E F cM sM C H locs cells slots lv hR hF hS hL hst h1 h2
  obtain ⟨⟨hx, hb, hml, hown, hnm⟩, hSF, hFF, hrm, hret⟩ := id C
  refine lv_lstore_n hx hb hd hn (lpairs_has hL) hL0 rfl (fun lv2 hl2 => ?_)
  exact k p l e R s m args below meth c Z E F cM sM C H locs cells slots lv2 hR hF hS (LL_put2 hL hl (okh hst) hl2) (okt hst) h1 h2
theorem V.lstore {M : MD} {d pc : Nat} {ls : List (Option MV)} {st : List MV} {h : MH} {sz kc ks : Nat} {Q : QT} {x : Int} {i : Nat} (hd : decode M.2.1 pc = .ok (.lstore i, 2)) (hL0 : i + 1 < M.2.2.1) (hl : noL ls i = true) (k : V M d (pc + 2) (put (put ls i (some (vL x))) (i + 1) none) st h sz kc ks Q) : V M d pc ls (vL x :: st) h sz kc ks Q := by
  intro p l e R s m args below meth c Z E F cM sM C H locs cells slots lv hR hF hS hL hst h1 h2
  obtain ⟨⟨hx, hb, hml, hown, hnm⟩, hSF, hFF, hrm, hret⟩ := id C
  refine lv_lstore hx hb hd (lpairs_has hL) hL0 rfl (fun lv2 hl2 => ?_)
  exact k p l e R s m args below meth c Z E F cM sM C H locs cells slots lv2 hR hF hS (LL_put2 hL hl (okh hst) hl2) (okt hst) h1 h2
theorem V.astore_n {M : MD} {d pc : Nat} {ls : List (Option MV)} {st : List MV} {h : MH} {sz kc ks : Nat} {Q : QT} {n : Fin 4} {w : Option Nat ⊕ Nat} (i : Nat) (hd : decode M.2.1 pc = .ok (.astore_n n, 1)) (hn : (n : Nat) = i) (hL0 : i < M.2.2.1) (hl : noL ls i = true) (k : V M d (pc + 1) (put ls i (some (.inr (.inr w)))) st h sz kc ks Q) : V M d pc ls (.inr (.inr w) :: st) h sz kc ks Q := by
  intro p l e R s m args below meth c Z E F cM sM C H locs cells slots lv hR hF hS hL hst h1 h2
  obtain ⟨⟨hx, hb, hml, hown, hnm⟩, hSF, hFF, hrm, hret⟩ := id C
  rcases w with (- | a) | a
  · exact lv_astore_nN hx hb hd hn (lpairs_has hL) hL0 rfl (fun lv2 hl2 => k p l e R s m args below meth c Z E F cM sM C H locs cells slots lv2 hR hF hS (LL_put1 hL hl (okh hst) hl2) (okt hst) h1 h2)
  · exact lv_astore_n hx hb hd hn (lpairs_has hL) hL0 rfl (fun lv2 hl2 => k p l e R s m args below meth c Z E F cM sM C H locs cells slots lv2 hR hF hS (LL_put1 hL hl (okh hst) hl2) (okt hst) h1 h2)
  · exact lv_astore_n hx hb hd hn (lpairs_has hL) hL0 rfl (fun lv2 hl2 => k p l e R s m args below meth c Z E F cM sM C H locs cells slots lv2 hR hF hS (LL_put1 hL hl (okh hst) hl2) (okt hst) h1 h2)
theorem V.astore {M : MD} {d pc : Nat} {ls : List (Option MV)} {st : List MV} {h : MH} {sz kc ks : Nat} {Q : QT} {w : Option Nat ⊕ Nat} {i : Nat} (hd : decode M.2.1 pc = .ok (.astore i, 2)) (hL0 : i < M.2.2.1) (hl : noL ls i = true) (k : V M d (pc + 2) (put ls i (some (.inr (.inr w)))) st h sz kc ks Q) : V M d pc ls (.inr (.inr w) :: st) h sz kc ks Q := by
  intro p l e R s m args below meth c Z E F cM sM C H locs cells slots lv hR hF hS hL hst h1 h2
  obtain ⟨⟨hx, hb, hml, hown, hnm⟩, hSF, hFF, hrm, hret⟩ := id C
  rcases w with (- | a) | a
  · exact lv_astoreN hx hb hd (lpairs_has hL) hL0 rfl (fun lv2 hl2 => k p l e R s m args below meth c Z E F cM sM C H locs cells slots lv2 hR hF hS (LL_put1 hL hl (okh hst) hl2) (okt hst) h1 h2)
  · exact lv_astore hx hb hd (lpairs_has hL) hL0 rfl (fun lv2 hl2 => k p l e R s m args below meth c Z E F cM sM C H locs cells slots lv2 hR hF hS (LL_put1 hL hl (okh hst) hl2) (okt hst) h1 h2)
  · exact lv_astore hx hb hd (lpairs_has hL) hL0 rfl (fun lv2 hl2 => k p l e R s m args below meth c Z E F cM sM C H locs cells slots lv2 hR hF hS (LL_put1 hL hl (okh hst) hl2) (okt hst) h1 h2)
theorem V.iinc {M : MD} {d pc : Nat} {ls : List (Option MV)} {st : List MV} {h : MH} {sz kc ks : Nat} {Q : QT} {x n : Int} {i : Nat} (hd : decode M.2.1 pc = .ok (.iinc i n, 3)) (hi : lk ls i = some (vI x)) (hz : i32 (x + n)) (hL0 : i < M.2.2.1) (hl : noL ls i = true) (k : V M d (pc + 3) (put ls i (some (vI (x + n)))) st h sz kc ks Q) : V M d pc ls st h sz kc ks Q := by
  intro p l e R s m args below meth c Z E F cM sM C H locs cells slots lv hR hF hS hL hst h1 h2
  obtain ⟨⟨hx, hb, hml, hown, hnm⟩, hSF, hFF, hrm, hret⟩ := id C
  obtain ⟨kk, hk⟩ := List.getElem?_of_mem (lpairs_mem (E := E) hi)
  refine lv_iinc hx hb hd (lpairs_has hL) hk (v := Int32.ofInt (x + n)) (by rw [Int32.ofInt_add]) hL0 rfl (fun lv2 hl2 => ?_)
  exact k p l e R s m args below meth c Z E F cM sM C H locs cells slots lv2 hR hF hS (LL_put1 (v := vI (x + n)) hL hl hz hl2) hst h1 h2
/-! RULES: the end -/
theorem V.ret {M : MD} {d pc : Nat} {ls : List (Option MV)} {st : List MV} {h : MH} {sz kc ks : Nat} {Q : QT} {r : Option MV} (hd : decode M.2.1 pc = .ok (retI r, 1)) (hr : okRet M.2.2.2 r) (hs : st = r.toList) (hq : Q r h sz) : V M d pc ls st h sz kc ks Q := by
  intro p l e R s m args below meth c Z E F cM sM C H locs cells slots lv hR hF hS hL hst h1 h2
  obtain ⟨⟨hx, hb, hml, hown, hnm⟩, hSF, hFF, hrm, hret⟩ := id C
  refine W.widen (k := cM) (n := sM) (by omega) (by omega) ?_
  subst hs
  exact hret H locs lv pc r h sz hR hF hS (fun v hv => hst v (by rw [hv]; exact List.mem_cons_self)) hr hq hd
end
section
/-! RULES: the heap -/
def gT : List Cond := lw_tbl.filter goodWord
theorem SF.w {E : Ev} {s : State} (h : SF E s) {w : Cond} (hw : w ∈ lw_tbl) (hg : goodWord w = true) (args : Array Value) : w.before args s = true := by
  have h1 := h.2.1 w hw hg
  exact word_at (U := s) (State.WarmedH.refl s) (good_of_word hg) h1
theorem SF.hts {E : Ev} {s : State} (h : SF E s) (args : Array Value) : ∀ w ∈ gT, w.before args s = true := fun w hw => h.w (List.mem_filter.mp hw).1 (List.mem_filter.mp hw).2 args
theorem good_lay (C : String) (T : u_T) (k : Nat) : goodWord (u_lay C T k) = true := by unfold u_lay; split <;> rfl
theorem in_gT {C : String} {T : u_T} {N : Nat} (h : ∀ w ∈ u_ws C T N, w ∈ lw_tbl) : ∀ w ∈ u_ws C T N, w ∈ gT := by
  intro w hw
  refine List.mem_filter.mpr ⟨h w hw, ?_⟩
  obtain ⟨k, -, rfl⟩ := List.mem_map.mp hw
  exact good_lay C T k
/-- a class of ours: its table, its types, what a program decides of them -/
def Cls (ci : Nat) (C : String) (T : u_T) (N : Nat) (ty : Nat → FieldType) : Prop := classes[ci]? = some (C, T, N) ∧ (∀ w ∈ u_ws C T N, w ∈ lw_tbl) ∧ (∀ k, k < N → parseFieldDescriptor (T k).2.2.1 = some (ty k)) ∧ (∀ a, a < N → ∀ b, b < N → a ≠ b → (T a).2.1 ≠ (T b).2.1)
theorem cl_RR : Cls 0 "RiverRoad" F_RR 7 t_RR := ⟨rfl, i_RR, t_RR_ok, n_RR⟩
theorem cl_Tr : Cls 1 "RiverRoad$Trace" F_Tr 2 t_Tr := ⟨rfl, i_Tr, t_Tr_ok, n_Tr⟩
theorem cl_Sh : Cls 2 "RiverRoad$Sheet" F_Sh 2 t_Sh := ⟨rfl, i_Sh, t_Sh_ok, n_Sh⟩
theorem cl_Row : Cls 3 "RiverRoad$Row" F_Row 2 t_Row := ⟨rfl, i_Row, t_Row_ok, n_Row⟩
theorem cl_Ar : Cls 4 "RiverRoad$Arches" F_Ar 3 t_Ar := ⟨rfl, i_Ar, t_Ar_ok, n_Ar⟩
theorem cl_Ne : Cls 5 "RiverRoad$Nest" F_Ar 3 t_Ar := ⟨rfl, i_Ne, t_Ar_ok, n_Ar⟩
theorem cl_Pe : Cls 6 "RiverRoad$Peaks" F_Ar 3 t_Ar := ⟨rfl, i_Pe, t_Ar_ok, n_Ar⟩
theorem cl_La : Cls 7 "RiverRoad$Land" F_La 5 t_La := ⟨rfl, i_La, t_La_ok, n_La⟩
theorem cl_Lo : Cls 8 "RiverRoad$Loop" F_La 5 t_La := ⟨rfl, i_Lo, t_La_ok, n_La⟩
theorem cl_St : Cls 9 "RiverRoad$Strip" F_St 5 t_St := ⟨rfl, i_St, t_St_ok, n_St⟩
theorem cl_Fo : Cls 10 "RiverRoad$Fold" F_St 5 t_St := ⟨rfl, i_Fo, t_St_ok, n_St⟩
theorem cl_Mo : Cls 11 "RiverRoadModel" F_Mo 34 t_Mo := ⟨rfl, i_Mo, t_Mo_ok, n_Mo⟩
/-- a field's link: what the instruction names is the field k of T -/
def FL (own : String) (index : Nat) (T : u_T) (k : Nat) : Prop := ∃ ref : String, Cond.fieldLink own index ref (T k).2.1 (T k).2.2.1 ∈ lw_tbl ∧ ((T k).1 = ref ∨ Cond.sameField ref (T k).1 (T k).2.1 (T k).2.2.1 ∈ lw_tbl)
def hset (h : MH) (a : Nat) (c : MC) : MH := fun b => if b = a then some c else h b
theorem RW.set {E : Ev} {h : MH} {sz a : Nat} {c2 : MC} {H H2 : Heap} (hR : RW E h sz H) (hz : H2.size = H.size) (hq : ∀ q, q ≠ eb E + a → H2[q]? = H[q]?) (hok : okC c2) (hat : va_at E.1 classes (eb E + a, ec E c2) H2) : RW E (hset h a c2) sz H2 := by
  refine ⟨by rw [hz]; exact hR.1, fun b c hb => ?_⟩
  unfold hset at hb
  split at hb
  · rename_i e; cases hb; subst e; exact ⟨hok, hat⟩
  · rename_i e
    have := hR.2 b c hb
    exact ⟨this.1, this.2.kept (hq _ (by show eb E + b ≠ eb E + a; omega))⟩
theorem RW.push {E : Ev} {h : MH} {sz : Nat} {c2 : MC} {H H2 : Heap} (hR : RW E h sz H) (hz : H2.size = H.size + 1) (hq : ∀ q, q < H.size → H2[q]? = H[q]?) (hok : okC c2) (hat : va_at E.1 classes (eb E + sz, ec E c2) H2) : RW E (hset h sz c2) (sz + 1) H2 := by
  refine ⟨by rw [hz, hR.1]; omega, fun b c hb => ?_⟩
  unfold hset at hb
  split at hb
  · rename_i e; cases hb; subst e; exact ⟨hok, hat⟩
  · have := hR.2 b c hb
    exact ⟨this.1, this.2.kept (hq _ this.2.lt)⟩
theorem hset_F {E : Ev} {F : Nat → Prop} {h : MH} {a : Nat} {c2 : MC} (hF : ∀ a c, h a = some c → F (eb E + a)) (ha : F (eb E + a)) : ∀ b c, hset h a c2 b = some c → F (eb E + b) := by
  intro b c hb
  unfold hset at hb
  split at hb
  · rename_i e; subst e; exact ha
  · exact hF b c hb
theorem va_S.push1 {F : Nat → Prop} {H0 H H2 : Heap} {locs : List Loc} (hS : va_S F H0 H locs) (hz : H2.size = H.size + 1) (hq : ∀ q, q < H.size → H2[q]? = H[q]?) : va_S F H0 H2 locs := ⟨Nat.le_trans hS.1 (by omega), fun q g1 g2 => (hq q (Nat.lt_of_lt_of_le g1 hS.1)).trans (hS.2.1 q g1 g2), hS.2.2⟩
section HR
variable {M : MD} {d pc : Nat} {ls : List (Option MV)} {st : List MV} {h : MH} {sz kc ks : Nat} {Q : QT}
theorem V.getf {index ci a N : Nat} {C : String} {T : u_T} {ty : Nat → FieldType} {fs : List MV} {v : MV} (k : Nat) (hC : Cls ci C T N ty) (hf : FL M.1.cls index T k) (hd : decode M.2.1 pc = .ok (.getfield index, 3)) (ha : h a = some (kO ci fs)) (hk : k < N) (hv : fs[k]? = some v)
    (kk : V M d (pc + 3) ls (v :: st) h sz kc ks Q) : V M d pc ls (vR a :: st) h sz kc ks Q := by
  intro p l e R s m args below meth c Z E F cM sM C1 H locs cells slots lv hR hF hS hL hst h1 h2
  obtain ⟨⟨hx, hb, hml, hown, hnm⟩, hSF, hFF, hrm, hret⟩ := id C1
  obtain ⟨hok, hat⟩ := hR.2 a _ ha
  obtain ⟨hcl, hin, hty, hnn⟩ := hC
  obtain ⟨ref, hl1, hl2⟩ := hf
  have hP : va_P E.1 classes [(eb E + a, .inr (ci, fs.map (cv E)))] H := fun j q hq => by
    match j, hq with
    | 0, hq => cases hq; exact hat
    | j + 1, hq => cases hq
  refine va_get (D := E.1) (cl := classes) (tys := ty4 E) (C := C) (T := T) (N := N) (ci := ci) (ref := ref) (v := cv E v) hx hb (hSF.hts args) (in_gT hin) hown hSF.1 hP 0 rfl hcl k hk (hSF.w hl1 rfl args) ?_ (by rw [List.getElem?_map, hv]; rfl) hd ?_
  · intro x hx2
    rcases hl2 with e1 | hl2
    · rw [← e1]; exact hx2
    · exact u_same (hSF.w hl2 rfl args) x hx2
  · exact kk p l e R s m args below meth c Z E F cM sM C1 H locs cells slots lv hR hF hS hL (okp (hok v (List.mem_of_getElem? hv)) (okt hst)) h1 h2
theorem V.putf {index ci a N : Nat} {C : String} {T : u_T} {ty : Nat → FieldType} {fs : List MV} {v : MV} (k : Nat) (hC : Cls ci C T N ty) (hf : FL M.1.cls index T k) (hd : decode M.2.1 pc = .ok (.putfield index, 3)) (ha : h a = some (kO ci fs)) (hk : k < N) (hl : k < fs.length) (hfin : (T k).2.2.2 = false) (hn : ∀ E, narrow (ty k) (cv E v) = cv E v ∧ fits (ty k) (cv E v) = true)
    (kk : V M d (pc + 3) ls st (hset h a (kO ci (fs.set k v))) sz kc ks Q) : V M d pc ls (v :: vR a :: st) h sz kc ks Q := by
  intro p l e R s m args below meth c Z E F cM sM C1 H locs cells slots lv hR hF hS hL hst h1 h2
  obtain ⟨⟨hx, hb, hml, hown, hnm⟩, hSF, hFF, hrm, hret⟩ := id C1
  obtain ⟨hok, hat⟩ := hR.2 a _ ha
  obtain ⟨hcl, hin, hty, hnn⟩ := hC
  obtain ⟨ref, hl1, hl2⟩ := hf
  have hin := in_gT hin
  have hts := hSF.hts args
  have hap := va_apart (own := M.1.cls) hts hin ty hty hnn hSF.1 hcl
  obtain ⟨r, g1, cell, q1, q2, q3, q4⟩ := hat
  have hr : r = (C, T, N) := Option.some.inj (g1.symm.trans hcl)
  subst hr
  obtain ⟨hS1, hfc, kC, hkC, hkind⟩ := hSF.1.1 ci _ hcl
  obtain ⟨cf, kf, fi, f, hi, hsl⟩ := hS1 k hk
  have hlay := hts _ (hin _ (u_in_lay hk))
  unfold u_lay at hlay
  rw [if_neg (by rw [hfin]; decide)] at hlay
  have hst2 := (u_facts hfc hkC (u_lays hts hin hk) hi).1
  have hsame : s.fieldFound? ref (T k).2.1 (T k).2.2.1 = some (cf, kf, fi, f) := by
    rcases hl2 with e1 | hl2
    · rw [← e1]; exact hi
    · exact u_same (hSF.w hl2 rfl args) _ hi
  have h6 := u_store hfc hkC hkind hlay hi (hty k hk) (hn E).1 (hn E).2
  refine W.putK hx hb (f := f) ⟨hown, hSF.w hl1 rfl args, ⟨_, _, _, hsame⟩, hst2⟩ (by rw [q2]; exact h6) q1 q3 (by rw [hsl]; exact k2_hasslot (q4 k hk)) rfl rfl hd fun H' e1 e2 e3 => ?_
  rw [hsl] at e1 ⊢
  have hR2 : RW E (hset h a (kO ci (fs.set k v))) sz H' := by
    refine hR.set e2 e3 ?_ ⟨_, hcl, t_OB.to (V := updV (vp_V (fs.map (cv E))) k (cv E v)) ⟨_, e1, q2, q3, t_set q4 hap hk (cv E v)⟩ (fun j _ => ?_)⟩
    · intro w hw
      rcases List.mem_or_eq_of_mem_set hw with hw | rfl
      · exact hok w hw
      · exact okh hst
    · have e9 := vp_updV_set (fs := fs.map (cv E)) (k := k) (by rw [List.length_map]; exact hl) (cv E v) j
      rw [← List.map_set] at e9
      exact e9
  exact kk p l e R s m args below meth c Z E F cM sM C1 H' _ cells slots lv hR2 (hset_F hF (hF a _ ha)) (hS.put e2 e3 (hF a _ ha)) hL (okt (okt hst)) h1 h2
theorem V.putF {index ci a N : Nat} {C : String} {T : u_T} {ty : Nat → FieldType} {fs : List MV} {v : MV} (k : Nat) (hC : Cls ci C T N ty) (hf : FL M.1.cls index T k) (hd : decode M.2.1 pc = .ok (.putfield index, 3)) (ha : h a = some (kO ci fs)) (hk : k < N) (hl : k < fs.length) (hfin : (T k).2.2.2 = true) (hin2 : M.1.name = "<init>") (hdecl : (T k).1 = M.1.cls) (hn : ∀ E, narrow (ty k) (cv E v) = cv E v ∧ fits (ty k) (cv E v) = true)
    (kk : V M d (pc + 3) ls st (hset h a (kO ci (fs.set k v))) sz kc ks Q) : V M d pc ls (v :: vR a :: st) h sz kc ks Q := by
  intro p l e R s m args below meth c Z E F cM sM C1 H locs cells slots lv hR hF hS hL hst h1 h2
  obtain ⟨⟨hx, hb, hml, hown, hnm⟩, hSF, hFF, hrm, hret⟩ := id C1
  obtain ⟨hok, hat⟩ := hR.2 a _ ha
  obtain ⟨hcl, hin, hty, hnn⟩ := hC
  obtain ⟨ref, hl1, hl2⟩ := hf
  have hin := in_gT hin
  have hts := hSF.hts args
  have hap := va_apart (own := M.1.cls) hts hin ty hty hnn hSF.1 hcl
  obtain ⟨r, g1, cell, q1, q2, q3, q4⟩ := hat
  have hr : r = (C, T, N) := Option.some.inj (g1.symm.trans hcl)
  subst hr
  obtain ⟨hS1, hfc, kC, hkC, hkind⟩ := hSF.1.1 ci _ hcl
  obtain ⟨cf, kf, fi, f, hi, hsl⟩ := hS1 k hk
  have hlay := hts _ (hin _ (u_in_lay hk))
  unfold u_lay at hlay
  rw [if_pos hfin] at hlay
  have hst2 := (u_facts hfc hkC (u_lays hts hin hk) hi).1
  have hsame : s.fieldFound? ref (T k).2.1 (T k).2.2.1 = some (cf, kf, fi, f) := by
    rcases hl2 with e1 | hl2
    · rw [← e1]; exact hi
    · exact u_same (hSF.w hl2 rfl args) _ hi
  have hcf : m.cls = cf := by
    obtain ⟨_, _, c', _, _, _, -, -, hf', -, -, -, hown2, -⟩ := Cond.laysFinal_spec hlay
    have e1 : c' = cf := by have := hi.symm.trans hf'; simp at this; exact this.1.symm
    rw [hdecl] at hown2
    rw [← e1]; exact Option.some.inj (hown.symm.trans hown2)
  have h6 := u_fits hfc hkC hkind (Or.inr hlay) hi (hty k hk) (hn E).1 (hn E).2
  refine W.putFinK hx hb hown (hSF.w hl1 rfl args) hsame hst2 hcf (by rw [hnm]; exact hin2) (by rw [q2]; exact h6) q1 q3 (by rw [hsl]; exact k2_hasslot (q4 k hk)) rfl rfl hd fun H' e1 e2 e3 => ?_
  rw [hsl] at e1 ⊢
  have hR2 : RW E (hset h a (kO ci (fs.set k v))) sz H' := by
    refine hR.set e2 e3 ?_ ⟨_, hcl, t_OB.to (V := updV (vp_V (fs.map (cv E))) k (cv E v)) ⟨_, e1, q2, q3, t_set q4 hap hk (cv E v)⟩ (fun j _ => ?_)⟩
    · intro w hw
      rcases List.mem_or_eq_of_mem_set hw with hw | rfl
      · exact hok w hw
      · exact okh hst
    · have e9 := vp_updV_set (fs := fs.map (cv E)) (k := k) (by rw [List.length_map]; exact hl) (cv E v) j
      rw [← List.map_set] at e9
      exact e9
  exact kk p l e R s m args below meth c Z E F cM sM C1 H' _ cells slots lv hR2 (hset_F hF (hF a _ ha)) (hS.put e2 e3 (hF a _ ha)) hL (okt (okt hst)) h1 h2
theorem V.new {index ci N : Nat} {C : String} {T : u_T} {ty : Nat → FieldType} (fs : List MV) {kc2 ks2 : Nat} (hC : Cls ci C T N ty) (hw1 : Cond.classLink M.1.cls index C ∈ lw_tbl) (hw2 : Cond.instantiable C N ∈ lw_tbl) (hw3 : Cond.initialized C ∈ lw_tbl) (hd : decode M.2.1 pc = .ok (.new index, 3)) (hfs : ∀ E, ∀ j, j < N → defaultValue (ty j) = vp_V (fs.map (cv E)) j) (hok : ∀ v ∈ fs, okV v) (g1 : kc2 + 1 ≤ kc) (g2 : ks2 + N ≤ ks)
    (kk : V M d (pc + 3) ls (vR sz :: st) (hset h sz (kO ci fs)) (sz + 1) kc2 ks2 Q) : V M d pc ls st h sz kc ks Q := by
  intro p l e R s m args below meth c Z E F cM sM C1 H locs cells slots lv hR hF hS hL hst h1 h2
  obtain ⟨⟨hx, hb, hml, hown, hnm⟩, hSF, hFF, hrm, hret⟩ := id C1
  obtain ⟨hcl, hin, hty, hnn⟩ := hC
  have hKn := hSF.1.1 ci _ hcl
  refine W.newcK hx hb hown (hSF.w hw1 rfl args) (hSF.w hw2 rfl args) (hSF.w hw3 rfl args) rfl hd (by omega) (by omega) hKn.2.1 rfl fun H1 kC hkC e1 z1 o1 => ?_
  have hsz : H.size = eb E + sz := hR.1
  have hR2 : RW E (hset h sz (kO ci fs)) (sz + 1) H1 := by
    refine hR.push z1 o1 hok ⟨_, hcl, ?_⟩
    rw [← hsz]
    exact (u_born ty (hSF.hts args) (in_gT hin) hKn hkC e1 hty).to (hfs E)
  have hk := kk p l e R s m args below meth c Z E F cM sM C1 H1 locs (cells + 1) (slots + N) lv hR2 (hset_F hF (by rw [← hsz]; exact hFF.1 _ hS.1)) (hS.push1 z1 o1) hL (okp (v := vR sz) trivial hst) (by omega) (by omega)
  rw [hsz]
  exact hk
theorem V.newi (t : Nat) {n : Int} {kc2 ks2 : Nat} (hd : decode M.2.1 pc = .ok (.newarray .int, 2)) (h0 : 0 ≤ n) (hb0 : n ≤ 100000) (g1 : kc2 + 1 ≤ kc) (g2 : ks2 + n.toNat ≤ ks)
    (kk : V M d (pc + 2) ls (vR sz :: st) (hset h sz (kA t n.toNat (fun _ => 0))) (sz + 1) kc2 ks2 Q) : V M d pc ls (vI n :: st) h sz kc ks Q := by
  intro p l e R s m args below meth c Z E F cM sM C1 H locs cells slots lv hR hF hS hL hst h1 h2
  obtain ⟨⟨hx, hb, hml, hown, hnm⟩, hSF, hFF, hrm, hret⟩ := id C1
  have hn : i32 n := okh hst
  have hcl : (Int32.ofInt n).toNatClampNeg = n.toNat := i32_cl hn
  refine va_newaK (atype := .int) hx hb (hSF.w (w := .arrayClass .int) (by decide +kernel) rfl args) rfl hd rfl (by rw [show (0 : Int32) = Int32.ofInt 0 from rfl, i32_lt hn i32_0]; omega) hcl (by show n.toNat * 4 ≤ _; omega) (by omega) (by omega) rfl fun H1 cA e1 z1 o1 hAr hNm => ?_
  have hsz : H.size = eb E + sz := hR.1
  have hcA : cA = E.2.1 0 := Option.some.inj (hNm.symm.trans (hSF.1.2 0 _ rfl).2)
  subst hcA
  have hR2 : RW E (hset h sz (kA t n.toNat (fun _ => 0))) (sz + 1) H1 := by
    refine hR.push z1 o1 ⟨by omega, fun j hj => ⟨i32_0, fun q => by cases q⟩⟩ ?_
    rw [← hsz]
    exact e1
  have hk := kk p l e R s m args below meth c Z E F cM sM C1 H1 locs (cells + 1) (slots + n.toNat) lv hR2 (hset_F hF (by rw [← hsz]; exact hFF.1 _ hS.1)) (hS.push1 z1 o1) hL (okp (v := vR sz) trivial (okt hst)) (by omega) (by omega)
  rw [hsz]
  exact hk
theorem V.newz {n : Int} {kc2 ks2 : Nat} (hd : decode M.2.1 pc = .ok (.newarray .boolean, 2)) (h0 : 0 ≤ n) (hb0 : n ≤ 100000) (g1 : kc2 + 1 ≤ kc) (g2 : ks2 + n.toNat ≤ ks)
    (kk : V M d (pc + 2) ls (vR sz :: st) (hset h sz (kZ n.toNat (fun _ => 0))) (sz + 1) kc2 ks2 Q) : V M d pc ls (vI n :: st) h sz kc ks Q := by
  intro p l e R s m args below meth c Z E F cM sM C1 H locs cells slots lv hR hF hS hL hst h1 h2
  obtain ⟨⟨hx, hb, hml, hown, hnm⟩, hSF, hFF, hrm, hret⟩ := id C1
  have hn : i32 n := okh hst
  have hcl : (Int32.ofInt n).toNatClampNeg = n.toNat := i32_cl hn
  refine va_newaK (atype := .boolean) hx hb (hSF.w (w := .arrayClass .boolean) (by decide +kernel) rfl args) rfl hd rfl (by rw [show (0 : Int32) = Int32.ofInt 0 from rfl, i32_lt hn i32_0]; omega) hcl (by show n.toNat * 1 ≤ _; omega) (by omega) (by omega) rfl fun H1 cA e1 z1 o1 hAr hNm => ?_
  have hsz : H.size = eb E + sz := hR.1
  have hcA : cA = E.2.1 1 := Option.some.inj (hNm.symm.trans (hSF.1.2 1 _ rfl).2)
  subst hcA
  have hR2 : RW E (hset h sz (kZ n.toNat (fun _ => 0))) (sz + 1) H1 := by
    refine hR.push z1 o1 ⟨by omega, fun j hj => ⟨i32_0, fun q => Or.inl rfl⟩⟩ ?_
    rw [← hsz]
    exact e1
  have hk := kk p l e R s m args below meth c Z E F cM sM C1 H1 locs (cells + 1) (slots + n.toNat) lv hR2 (hset_F hF (by rw [← hsz]; exact hFF.1 _ hS.1)) (hS.push1 z1 o1) hL (okp (v := vR sz) trivial (okt hst)) (by omega) (by omega)
  rw [hsz]
  exact hk
theorem V.newr0 {index : Nat} {n : Int} {kc2 ks2 : Nat} (hw1 : Cond.classLink M.1.cls index "RiverRoad$Sheet" ∈ lw_tbl) (hd : decode M.2.1 pc = .ok (.anewarray index, 3)) (h0 : 0 ≤ n) (hb0 : n ≤ 100000) (g1 : kc2 + 1 ≤ kc) (g2 : ks2 + n.toNat ≤ ks)
    (kk : V M d (pc + 3) ls (vR sz :: st) (hset h sz (kR 0 n.toNat (fun _ => none))) (sz + 1) kc2 ks2 Q) : V M d pc ls (vI n :: st) h sz kc ks Q := by
  intro p l e R s m args below meth c Z E F cM sM C1 H locs cells slots lv hR hF hS hL hst h1 h2
  obtain ⟨⟨hx, hb, hml, hown, hnm⟩, hSF, hFF, hrm, hret⟩ := id C1
  have hn : i32 n := okh hst
  have hcl : (Int32.ofInt n).toNatClampNeg = n.toNat := i32_cl hn
  have hov : va_AO "RiverRoad$Sheet" s := hSF.2.2.2.2.2.2.1
  refine W.anew hx hb hown (hSF.w hw1 rfl args) (va_AO.use hov) rfl hd rfl (by rw [show (0 : Int32) = Int32.ofInt 0 from rfl, i32_lt hn i32_0]; omega) (by rw [hcl]; omega) (by omega) (by rw [hcl]; omega) fun cA kA comp f1 f2 f3 f4 => ?_
  rw [hcl]
  have hsz : H.size = eb E + sz := hR.1
  obtain ⟨kA2, comp2, a1, a2, a3, a4⟩ := (hSF.1.2 2 _ rfl).2
  have hcA : cA = E.2.1 2 := Option.some.inj (f1.symm.trans a4)
  subst hcA
  generalize hH1 : H.push ({ cls := E.2.1 2, slots := Array.replicate n.toNat .null, vm := .none } : Cell) = H1
  have z1 : H1.size = H.size + 1 := by rw [← hH1, Array.size_push]
  have e1 : H1[H.size]? = some (arrV (E.2.1 2) n.toNat (fun _ => .null)) := by rw [← hH1, Array.getElem?_push_size, ← arrV_new]
  have o1 : ∀ q : Nat, q < H.size → H1[q]? = H[q]? := fun q hq => by rw [← hH1, Array.getElem?_push, if_neg (Nat.ne_of_lt hq)]
  have hR2 : RW E (hset h sz (kR 0 n.toNat (fun _ => none))) (sz + 1) H1 := by
    refine hR.push z1 o1 (show n.toNat < 2147483648 by omega) ?_
    rw [← hsz]
    exact e1
  have hk := kk p l e R s m args below meth c Z E F cM sM C1 H1 locs (cells + 1) (slots + n.toNat) lv hR2 (hset_F hF (by rw [← hsz]; exact hFF.1 _ hS.1)) (hS.push1 z1 o1) hL (okp (v := vR sz) trivial (okt hst)) (by omega) (by omega)
  rw [hsz]
  exact hk
theorem V.newr1 {index : Nat} {n : Int} {kc2 ks2 : Nat} (hw1 : Cond.classLink M.1.cls index "RiverRoad$Thing" ∈ lw_tbl) (hd : decode M.2.1 pc = .ok (.anewarray index, 3)) (h0 : 0 ≤ n) (hb0 : n ≤ 100000) (g1 : kc2 + 1 ≤ kc) (g2 : ks2 + n.toNat ≤ ks)
    (kk : V M d (pc + 3) ls (vR sz :: st) (hset h sz (kR 1 n.toNat (fun _ => none))) (sz + 1) kc2 ks2 Q) : V M d pc ls (vI n :: st) h sz kc ks Q := by
  intro p l e R s m args below meth c Z E F cM sM C1 H locs cells slots lv hR hF hS hL hst h1 h2
  obtain ⟨⟨hx, hb, hml, hown, hnm⟩, hSF, hFF, hrm, hret⟩ := id C1
  have hn : i32 n := okh hst
  have hcl : (Int32.ofInt n).toNatClampNeg = n.toNat := i32_cl hn
  have hov : va_AO "RiverRoad$Thing" s := hSF.2.2.2.2.2.2.2.1
  refine W.anew hx hb hown (hSF.w hw1 rfl args) (va_AO.use hov) rfl hd rfl (by rw [show (0 : Int32) = Int32.ofInt 0 from rfl, i32_lt hn i32_0]; omega) (by rw [hcl]; omega) (by omega) (by rw [hcl]; omega) fun cA kA comp f1 f2 f3 f4 => ?_
  rw [hcl]
  have hsz : H.size = eb E + sz := hR.1
  obtain ⟨kA2, comp2, a1, a2, a3, a4⟩ := (hSF.1.2 3 _ rfl).2
  have hcA : cA = E.2.1 3 := Option.some.inj (f1.symm.trans a4)
  subst hcA
  generalize hH1 : H.push ({ cls := E.2.1 3, slots := Array.replicate n.toNat .null, vm := .none } : Cell) = H1
  have z1 : H1.size = H.size + 1 := by rw [← hH1, Array.size_push]
  have e1 : H1[H.size]? = some (arrV (E.2.1 3) n.toNat (fun _ => .null)) := by rw [← hH1, Array.getElem?_push_size, ← arrV_new]
  have o1 : ∀ q : Nat, q < H.size → H1[q]? = H[q]? := fun q hq => by rw [← hH1, Array.getElem?_push, if_neg (Nat.ne_of_lt hq)]
  have hR2 : RW E (hset h sz (kR 1 n.toNat (fun _ => none))) (sz + 1) H1 := by
    refine hR.push z1 o1 (show n.toNat < 2147483648 by omega) ?_
    rw [← hsz]
    exact e1
  have hk := kk p l e R s m args below meth c Z E F cM sM C1 H1 locs (cells + 1) (slots + n.toNat) lv hR2 (hset_F hF (by rw [← hsz]; exact hFF.1 _ hS.1)) (hS.push1 z1 o1) hL (okp (v := vR sz) trivial (okt hst)) (by omega) (by omega)
  rw [hsz]
  exact hk
theorem V.iald {a t n : Nat} {f : Nat → Int} {i : Int} (hd : decode M.2.1 pc = .ok (.iaload, 1)) (ha : h a = some (kA t n f)) (h0 : 0 ≤ i) (h9 : i < n) (kk : V M d (pc + 1) ls (vI (f i.toNat) :: st) h sz kc ks Q) : V M d pc ls (vI i :: vR a :: st) h sz kc ks Q := by
  intro p l e R s m args below meth c Z E F cM sM C1 H locs cells slots lv hR hF hS hL hst h1 h2
  obtain ⟨⟨hx, hb, hml, hown, hnm⟩, hSF, hFF, hrm, hret⟩ := id C1
  have hi : i32 i := okh hst
  obtain ⟨hok, hat⟩ := hR.2 a _ ha
  have hP : va_P E.1 classes [(eb E + a, .inl (E.2.1 0, n, .inl (fun j => Int32.ofInt (f j))))] H := fun j q hq => by
    match j, hq with
    | 0, hq => cases hq; exact hat
    | j + 1, hq => cases hq
  refine va_iald (D := E.1) (cl := classes) (tys := ty4 E) hx hb hSF.1 hP 0 0 rfl rfl (i32_in hi h0 h9) hd ?_
  rw [i32_cl hi]
  exact kk p l e R s m args below meth c Z E F cM sM C1 H locs cells slots lv hR hF hS hL (okp (v := vI _) (hok.2 _ (by omega)).1 (okt (okt hst))) h1 h2
theorem V.zald {a n : Nat} {f : Nat → Int} {i : Int} (hd : decode M.2.1 pc = .ok (.baload, 1)) (ha : h a = some (kZ n f)) (h0 : 0 ≤ i) (h9 : i < n) (kk : V M d (pc + 1) ls (vI (f i.toNat) :: st) h sz kc ks Q) : V M d pc ls (vI i :: vR a :: st) h sz kc ks Q := by
  intro p l e R s m args below meth c Z E F cM sM C1 H locs cells slots lv hR hF hS hL hst h1 h2
  obtain ⟨⟨hx, hb, hml, hown, hnm⟩, hSF, hFF, hrm, hret⟩ := id C1
  have hi : i32 i := okh hst
  obtain ⟨hok, hat⟩ := hR.2 a _ ha
  have hP : va_P E.1 classes [(eb E + a, .inl (E.2.1 1, n, .inl (fun j => Int32.ofInt (f j))))] H := fun j q hq => by
    match j, hq with
    | 0, hq => cases hq; exact hat
    | j + 1, hq => cases hq
  refine va_zald (D := E.1) (cl := classes) (tys := ty4 E) hx hb hSF.1 hP 0 1 rfl rfl (i32_in hi h0 h9) hd ?_
  rw [i32_cl hi]
  exact kk p l e R s m args below meth c Z E F cM sM C1 H locs cells slots lv hR hF hS hL (okp (v := vI _) (hok.2 _ (by omega)).1 (okt (okt hst))) h1 h2
theorem cv_vQ (E : Ev) (o : Option Nat) : va_rf (cq E o) = cv E (vQ o) := by cases o <;> rfl
theorem V.aald0 {a n : Nat} {g : Nat → Option Nat} {i : Int} (hd : decode M.2.1 pc = .ok (.aaload, 1)) (ha : h a = some (kR 0 n g)) (h0 : 0 ≤ i) (h9 : i < n) (kk : V M d (pc + 1) ls (vQ (g i.toNat) :: st) h sz kc ks Q) : V M d pc ls (vI i :: vR a :: st) h sz kc ks Q := by
  intro p l e R s m args below meth c Z E F cM sM C1 H locs cells slots lv hR hF hS hL hst h1 h2
  obtain ⟨⟨hx, hb, hml, hown, hnm⟩, hSF, hFF, hrm, hret⟩ := id C1
  have hi : i32 i := okh hst
  obtain ⟨hok, hat⟩ := hR.2 a _ ha
  have hP : va_P E.1 classes [(eb E + a, .inl (E.2.1 2, n, .inr (.inr (.inr (.inr (fun j => cq E (g j)))))))] H := fun j q hq => by
    match j, hq with
    | 0, hq => cases hq; exact hat
    | j + 1, hq => cases hq
  refine va_aldq (D := E.1) (cl := classes) (tys := ty4 E) hx hb hSF.1 hP 0 2 rfl rfl (i32_in hi h0 h9) hd ?_
  rw [i32_cl hi, cv_vQ]
  exact kk p l e R s m args below meth c Z E F cM sM C1 H locs cells slots lv hR hF hS hL (okp (v := vQ _) trivial (okt (okt hst))) h1 h2
theorem V.aald1 {a n : Nat} {g : Nat → Option Nat} {i : Int} (hd : decode M.2.1 pc = .ok (.aaload, 1)) (ha : h a = some (kR 1 n g)) (h0 : 0 ≤ i) (h9 : i < n) (kk : V M d (pc + 1) ls (vQ (g i.toNat) :: st) h sz kc ks Q) : V M d pc ls (vI i :: vR a :: st) h sz kc ks Q := by
  intro p l e R s m args below meth c Z E F cM sM C1 H locs cells slots lv hR hF hS hL hst h1 h2
  obtain ⟨⟨hx, hb, hml, hown, hnm⟩, hSF, hFF, hrm, hret⟩ := id C1
  have hi : i32 i := okh hst
  obtain ⟨hok, hat⟩ := hR.2 a _ ha
  have hP : va_P E.1 classes [(eb E + a, .inl (E.2.1 3, n, .inr (.inr (.inr (.inr (fun j => cq E (g j)))))))] H := fun j q hq => by
    match j, hq with
    | 0, hq => cases hq; exact hat
    | j + 1, hq => cases hq
  refine va_aldq (D := E.1) (cl := classes) (tys := ty4 E) hx hb hSF.1 hP 0 3 rfl rfl (i32_in hi h0 h9) hd ?_
  rw [i32_cl hi, cv_vQ]
  exact kk p l e R s m args below meth c Z E F cM sM C1 H locs cells slots lv hR hF hS hL (okp (v := vQ _) trivial (okt (okt hst))) h1 h2
/-- a table with place i set -/
def upf (f : Nat → Int) (i : Nat) (x : Int) : Nat → Int := fun j => if j = i then x else f j
def upq (g : Nat → Option Nat) (i : Nat) (x : Option Nat) : Nat → Option Nat := fun j => if j = i then x else g j
theorem V.iast {a t n : Nat} {f : Nat → Int} {i x : Int} (hd : decode M.2.1 pc = .ok (.iastore, 1)) (ha : h a = some (kA t n f)) (h0 : 0 ≤ i) (h9 : i < n) (kk : V M d (pc + 1) ls st (hset h a (kA t n (upf f i.toNat x))) sz kc ks Q) : V M d pc ls (vI x :: vI i :: vR a :: st) h sz kc ks Q := by
  intro p l e R s m args below meth c Z E F cM sM C1 H locs cells slots lv hR hF hS hL hst h1 h2
  obtain ⟨⟨hx, hb, hml, hown, hnm⟩, hSF, hFF, hrm, hret⟩ := id C1
  have hi : i32 i := okh (okt hst)
  obtain ⟨hok, hat⟩ := hR.2 a _ ha
  have hat : H[eb E + a]? = some (arrV (E.2.1 0) n (fun j => .int (Int32.ofInt (f j)))) := hat
  refine W.iast hx hb hat ((hSF.1.2 0 _ rfl).1 n (fun j => .int (Int32.ofInt (f j)))) (fun q => by cases q) (by rw [arrV_size]; exact i32_in hi h0 h9) rfl rfl hd fun H1 e8 z oq => ?_
  have hR2 : RW E (hset h a (kA t n (upf f i.toNat x))) sz H1 := by
    refine hR.set z oq ⟨hok.1, fun j hj => ⟨?_, fun q => by cases q⟩⟩ ?_
    · unfold upf; split
      · exact okh hst
      · exact (hok.2 j hj).1
    · show H1[eb E + a]? = some (arrV (E.2.1 0) n (fun j => .int (Int32.ofInt (upf f i.toNat x j))))
      rw [e8, arrV_store, i32_cl hi]
      congr 2
      funext q
      by_cases hq : q = i.toNat
      · subst hq; simp [updV, upf]
      · simp [updV, upf, hq]
  exact kk p l e R s m args below meth c Z E F cM sM C1 H1 _ cells slots lv hR2 (hset_F hF (hF a _ ha)) (hS.put z oq (hF a _ ha)) hL (okt (okt (okt hst))) h1 h2
theorem V.zast {a n : Nat} {f : Nat → Int} {i x : Int} (hd : decode M.2.1 pc = .ok (.bastore, 1)) (ha : h a = some (kZ n f)) (h0 : 0 ≤ i) (h9 : i < n) (hx0 : x = 0 ∨ x = 1) (kk : V M d (pc + 1) ls st (hset h a (kZ n (upf f i.toNat x))) sz kc ks Q) : V M d pc ls (vI x :: vI i :: vR a :: st) h sz kc ks Q := by
  intro p l e R s m args below meth c Z E F cM sM C1 H locs cells slots lv hR hF hS hL hst h1 h2
  obtain ⟨⟨hx, hb, hml, hown, hnm⟩, hSF, hFF, hrm, hret⟩ := id C1
  have hi : i32 i := okh (okt hst)
  obtain ⟨hok, hat⟩ := hR.2 a _ ha
  have hat : H[eb E + a]? = some (arrV (E.2.1 1) n (fun j => .int (Int32.ofInt (f j)))) := hat
  have hnar : narrow .boolean (.int (Int32.ofInt x)) = .int (Int32.ofInt x) := by rcases hx0 with rfl | rfl <;> rfl
  refine W.zast hx hb hat ((hSF.1.2 1 _ rfl).1 n (fun j => .int (Int32.ofInt (f j)))) (fun q => by cases q) (by rw [arrV_size]; exact i32_in hi h0 h9) rfl rfl hd fun H1 e8 z oq => ?_
  rw [hnar] at e8
  have hR2 : RW E (hset h a (kZ n (upf f i.toNat x))) sz H1 := by
    refine hR.set z oq ⟨hok.1, fun j hj => ?_⟩ ?_
    · unfold upf; split
      · exact ⟨okh hst, fun _ => hx0⟩
      · exact hok.2 j hj
    · show H1[eb E + a]? = some (arrV (E.2.1 1) n (fun j => .int (Int32.ofInt (upf f i.toNat x j))))
      rw [e8, arrV_store, i32_cl hi]
      congr 2
      funext q
      by_cases hq : q = i.toNat
      · subst hq; simp [updV, upf]
      · simp [updV, upf, hq]
  exact kk p l e R s m args below meth c Z E F cM sM C1 H1 _ cells slots lv hR2 (hset_F hF (hF a _ ha)) (hS.put z oq (hF a _ ha)) hL (okt (okt (okt hst))) h1 h2
theorem V.aast0 {a n b ci N : Nat} {C : String} {T : u_T} {ty : Nat → FieldType} {fs : List MV} {g : Nat → Option Nat} {i : Int} (hC : Cls ci C T N ty) (hca : C = "RiverRoad$Sheet" ∨ (C, "RiverRoad$Sheet") ∈ caL) (hd : decode M.2.1 pc = .ok (.aastore, 1)) (ha : h a = some (kR 0 n g)) (hb9 : h b = some (kO ci fs)) (h0 : 0 ≤ i) (h9 : i < n) (kk : V M d (pc + 1) ls st (hset h a (kR 0 n (upq g i.toNat (some b)))) sz kc ks Q) : V M d pc ls (vR b :: vI i :: vR a :: st) h sz kc ks Q := by
  intro p l e R s m args below meth c Z E F cM sM C1 H locs cells slots lv hR hF hS hL hst h1 h2
  obtain ⟨⟨hx, hb, hml, hown, hnm⟩, hSF, hFF, hrm, hret⟩ := id C1
  have hi : i32 i := okh (okt hst)
  obtain ⟨hok, hat⟩ := hR.2 a _ ha
  obtain ⟨hokb, r, hr1, cellV, g1, g2, g3, g4⟩ := hR.2 b _ hb9
  have hat : H[eb E + a]? = some (arrV (E.2.1 2) n (fun j => va_rf (cq E (g j)))) := hat
  obtain ⟨hcl, -, -, -⟩ := hC
  have hcls := (hSF.1.1 ci _ hcl).2
  obtain ⟨kA, comp, k1, k2, k3, -⟩ := (hSF.1.2 2 _ rfl).2
  obtain ⟨kE, hkE, -⟩ := Vm.findClass_spec k3
  obtain ⟨kC, hkC, -⟩ := hcls.2
  have hasg : s.vm.assignable (E.1.1 ci) comp = true := by
    rcases hca with e1 | hca
    · have e2 : s.vm.findClass "RiverRoad$Sheet" = some (E.1.1 ci) := by rw [← e1]; exact hcls.1
      cases k3.symm.trans e2
      exact va_assign hcls
    · obtain ⟨c0, t1, f1, f2, f3⟩ := Cond.castable_spec (va_Nw.use (A := args) rfl (hSF.2.2.1 _ hca))
      cases hcls.1.symm.trans f1
      cases k3.symm.trans f2
      exact f3
  refine W.aast hx hb hat (fun q hq => by cases hq) (fun hq => by cases hq) k1 k2 rfl hkE ⟨by rw [show (0 : Int32) = Int32.ofInt 0 from rfl, i32_lt hi i32_0]; omega, by rw [arrV_size, i32_cl hi]; omega⟩ g1 (fun q hq => by rw [g3] at hq; cases hq) (by rw [g2]; exact hkC) (by rw [g2]; exact hasg) rfl rfl hd fun H1 e8 z oq => ?_
  have hR2 : RW E (hset h a (kR 0 n (upq g i.toNat (some b)))) sz H1 := by
    refine hR.set z oq hok ?_
    show H1[eb E + a]? = some (arrV (E.2.1 2) n (fun j => va_rf (cq E (upq g i.toNat (some b) j))))
    rw [e8, arrV_store, i32_cl hi]
    congr 2
    funext q
    by_cases hq : q = i.toNat
    · subst hq; simp [updV, upq, va_rf, cq]
    · simp [updV, upq, hq]
  exact kk p l e R s m args below meth c Z E F cM sM C1 H1 _ cells slots lv hR2 (hset_F hF (hF a _ ha)) (hS.put z oq (hF a _ ha)) hL (okt (okt (okt hst))) h1 h2
theorem V.aastN0 {a n : Nat} {g : Nat → Option Nat} {i : Int} (hd : decode M.2.1 pc = .ok (.aastore, 1)) (ha : h a = some (kR 0 n g)) (h0 : 0 ≤ i) (h9 : i < n) (kk : V M d (pc + 1) ls st (hset h a (kR 0 n (upq g i.toNat none))) sz kc ks Q) : V M d pc ls (vN :: vI i :: vR a :: st) h sz kc ks Q := by
  intro p l e R s m args below meth c Z E F cM sM C1 H locs cells slots lv hR hF hS hL hst h1 h2
  obtain ⟨⟨hx, hb, hml, hown, hnm⟩, hSF, hFF, hrm, hret⟩ := id C1
  have hi : i32 i := okh (okt hst)
  obtain ⟨hok, hat⟩ := hR.2 a _ ha
  have hat : H[eb E + a]? = some (arrV (E.2.1 2) n (fun j => va_rf (cq E (g j)))) := hat
  refine va_WaastN (C := "RiverRoad$Sheet") hx hb hat ((hSF.1.2 2 _ rfl).1 n (fun j => va_rf (cq E (g j)))) (fun q => by cases q) (by rw [arrV_size]; exact i32_in hi h0 h9) rfl rfl hd fun H1 e8 z oq => ?_
  have hR2 : RW E (hset h a (kR 0 n (upq g i.toNat none))) sz H1 := by
    refine hR.set z oq hok ?_
    show H1[eb E + a]? = some (arrV (E.2.1 2) n (fun j => va_rf (cq E (upq g i.toNat none j))))
    rw [e8, arrV_store, i32_cl hi]
    congr 2
    funext q
    by_cases hq : q = i.toNat
    · subst hq; simp [updV, upq, va_rf, cq]
    · simp [updV, upq, hq]
  exact kk p l e R s m args below meth c Z E F cM sM C1 H1 _ cells slots lv hR2 (hset_F hF (hF a _ ha)) (hS.put z oq (hF a _ ha)) hL (okt (okt (okt hst))) h1 h2
theorem V.aast1 {a n b ci N : Nat} {C : String} {T : u_T} {ty : Nat → FieldType} {fs : List MV} {g : Nat → Option Nat} {i : Int} (hC : Cls ci C T N ty) (hca : C = "RiverRoad$Thing" ∨ (C, "RiverRoad$Thing") ∈ caL) (hd : decode M.2.1 pc = .ok (.aastore, 1)) (ha : h a = some (kR 1 n g)) (hb9 : h b = some (kO ci fs)) (h0 : 0 ≤ i) (h9 : i < n) (kk : V M d (pc + 1) ls st (hset h a (kR 1 n (upq g i.toNat (some b)))) sz kc ks Q) : V M d pc ls (vR b :: vI i :: vR a :: st) h sz kc ks Q := by
  intro p l e R s m args below meth c Z E F cM sM C1 H locs cells slots lv hR hF hS hL hst h1 h2
  obtain ⟨⟨hx, hb, hml, hown, hnm⟩, hSF, hFF, hrm, hret⟩ := id C1
  have hi : i32 i := okh (okt hst)
  obtain ⟨hok, hat⟩ := hR.2 a _ ha
  obtain ⟨hokb, r, hr1, cellV, g1, g2, g3, g4⟩ := hR.2 b _ hb9
  have hat : H[eb E + a]? = some (arrV (E.2.1 3) n (fun j => va_rf (cq E (g j)))) := hat
  obtain ⟨hcl, -, -, -⟩ := hC
  have hcls := (hSF.1.1 ci _ hcl).2
  obtain ⟨kA, comp, k1, k2, k3, -⟩ := (hSF.1.2 3 _ rfl).2
  obtain ⟨kE, hkE, -⟩ := Vm.findClass_spec k3
  obtain ⟨kC, hkC, -⟩ := hcls.2
  have hasg : s.vm.assignable (E.1.1 ci) comp = true := by
    rcases hca with e1 | hca
    · have e2 : s.vm.findClass "RiverRoad$Thing" = some (E.1.1 ci) := by rw [← e1]; exact hcls.1
      cases k3.symm.trans e2
      exact va_assign hcls
    · obtain ⟨c0, t1, f1, f2, f3⟩ := Cond.castable_spec (va_Nw.use (A := args) rfl (hSF.2.2.1 _ hca))
      cases hcls.1.symm.trans f1
      cases k3.symm.trans f2
      exact f3
  refine W.aast hx hb hat (fun q hq => by cases hq) (fun hq => by cases hq) k1 k2 rfl hkE ⟨by rw [show (0 : Int32) = Int32.ofInt 0 from rfl, i32_lt hi i32_0]; omega, by rw [arrV_size, i32_cl hi]; omega⟩ g1 (fun q hq => by rw [g3] at hq; cases hq) (by rw [g2]; exact hkC) (by rw [g2]; exact hasg) rfl rfl hd fun H1 e8 z oq => ?_
  have hR2 : RW E (hset h a (kR 1 n (upq g i.toNat (some b)))) sz H1 := by
    refine hR.set z oq hok ?_
    show H1[eb E + a]? = some (arrV (E.2.1 3) n (fun j => va_rf (cq E (upq g i.toNat (some b) j))))
    rw [e8, arrV_store, i32_cl hi]
    congr 2
    funext q
    by_cases hq : q = i.toNat
    · subst hq; simp [updV, upq, va_rf, cq]
    · simp [updV, upq, hq]
  exact kk p l e R s m args below meth c Z E F cM sM C1 H1 _ cells slots lv hR2 (hset_F hF (hF a _ ha)) (hS.put z oq (hF a _ ha)) hL (okt (okt (okt hst))) h1 h2
theorem V.aastN1 {a n : Nat} {g : Nat → Option Nat} {i : Int} (hd : decode M.2.1 pc = .ok (.aastore, 1)) (ha : h a = some (kR 1 n g)) (h0 : 0 ≤ i) (h9 : i < n) (kk : V M d (pc + 1) ls st (hset h a (kR 1 n (upq g i.toNat none))) sz kc ks Q) : V M d pc ls (vN :: vI i :: vR a :: st) h sz kc ks Q := by
  intro p l e R s m args below meth c Z E F cM sM C1 H locs cells slots lv hR hF hS hL hst h1 h2
  obtain ⟨⟨hx, hb, hml, hown, hnm⟩, hSF, hFF, hrm, hret⟩ := id C1
  have hi : i32 i := okh (okt hst)
  obtain ⟨hok, hat⟩ := hR.2 a _ ha
  have hat : H[eb E + a]? = some (arrV (E.2.1 3) n (fun j => va_rf (cq E (g j)))) := hat
  refine va_WaastN (C := "RiverRoad$Thing") hx hb hat ((hSF.1.2 3 _ rfl).1 n (fun j => va_rf (cq E (g j)))) (fun q => by cases q) (by rw [arrV_size]; exact i32_in hi h0 h9) rfl rfl hd fun H1 e8 z oq => ?_
  have hR2 : RW E (hset h a (kR 1 n (upq g i.toNat none))) sz H1 := by
    refine hR.set z oq hok ?_
    show H1[eb E + a]? = some (arrV (E.2.1 3) n (fun j => va_rf (cq E (upq g i.toNat none j))))
    rw [e8, arrV_store, i32_cl hi]
    congr 2
    funext q
    by_cases hq : q = i.toNat
    · subst hq; simp [updV, upq, va_rf, cq]
    · simp [updV, upq, hq]
  exact kk p l e R s m args below meth c Z E F cM sM C1 H1 _ cells slots lv hR2 (hset_F hF (hF a _ ha)) (hS.put z oq (hF a _ ha)) hL (okt (okt (okt hst))) h1 h2
end HR
end
section
/-! RULES: more of the heap -/
section HR2
variable {M : MD} {d pc : Nat} {ls : List (Option MV)} {st : List MV} {h : MH} {sz kc ks : Nat} {Q : QT}
theorem n32 {n : Nat} (h : n < 2147483648) : i32 (n : Int) := by unfold i32; omega
theorem n32_size {n : Nat} (h : n < 2147483648) : n.toInt32 = Int32.ofInt (n : Int) := by rw [Int32.ofInt_eq_ofNat]
theorem V.alen {a t n : Nat} {f : Nat → Int} (hd : decode M.2.1 pc = .ok (.arraylength, 1)) (ha : h a = some (kA t n f)) (kk : V M d (pc + 1) ls (vI n :: st) h sz kc ks Q) : V M d pc ls (vR a :: st) h sz kc ks Q := by
  intro p l e R s m args below meth c Z E F cM sM C1 H locs cells slots lv hR hF hS hL hst h1 h2
  obtain ⟨⟨hx, hb, hml, hown, hnm⟩, hSF, hFF, hrm, hret⟩ := id C1
  obtain ⟨hok, hat⟩ := hR.2 a _ ha
  have hat : H[eb E + a]? = some (arrV (E.2.1 0) n (fun j => .int (Int32.ofInt (f j)))) := hat
  refine W.alen (n := Int32.ofInt (n : Int)) hx hb hat ((hSF.1.2 0 _ rfl).1 n (fun j => .int (Int32.ofInt (f j)))) (by rw [arrV_size]; exact n32_size hok.1) rfl rfl hd ?_
  exact kk p l e R s m args below meth c Z E F cM sM C1 H locs cells slots lv hR hF hS hL (okp (v := vI n) (n32 hok.1) (okt hst)) h1 h2
theorem V.rlen0 {a n : Nat} {g : Nat → Option Nat} (hd : decode M.2.1 pc = .ok (.arraylength, 1)) (ha : h a = some (kR 0 n g)) (kk : V M d (pc + 1) ls (vI n :: st) h sz kc ks Q) : V M d pc ls (vR a :: st) h sz kc ks Q := by
  intro p l e R s m args below meth c Z E F cM sM C1 H locs cells slots lv hR hF hS hL hst h1 h2
  obtain ⟨⟨hx, hb, hml, hown, hnm⟩, hSF, hFF, hrm, hret⟩ := id C1
  obtain ⟨hok, hat⟩ := hR.2 a _ ha
  have hat : H[eb E + a]? = some (arrV (E.2.1 2) n (fun j => va_rf (cq E (g j)))) := hat
  refine W.alen (n := Int32.ofInt (n : Int)) hx hb hat ((hSF.1.2 2 _ rfl).1 n (fun j => va_rf (cq E (g j)))) (by rw [arrV_size]; exact n32_size hok) rfl rfl hd ?_
  exact kk p l e R s m args below meth c Z E F cM sM C1 H locs cells slots lv hR hF hS hL (okp (v := vI n) (n32 hok) (okt hst)) h1 h2
theorem V.rlen1 {a n : Nat} {g : Nat → Option Nat} (hd : decode M.2.1 pc = .ok (.arraylength, 1)) (ha : h a = some (kR 1 n g)) (kk : V M d (pc + 1) ls (vI n :: st) h sz kc ks Q) : V M d pc ls (vR a :: st) h sz kc ks Q := by
  intro p l e R s m args below meth c Z E F cM sM C1 H locs cells slots lv hR hF hS hL hst h1 h2
  obtain ⟨⟨hx, hb, hml, hown, hnm⟩, hSF, hFF, hrm, hret⟩ := id C1
  obtain ⟨hok, hat⟩ := hR.2 a _ ha
  have hat : H[eb E + a]? = some (arrV (E.2.1 3) n (fun j => va_rf (cq E (g j)))) := hat
  refine W.alen (n := Int32.ofInt (n : Int)) hx hb hat ((hSF.1.2 3 _ rfl).1 n (fun j => va_rf (cq E (g j)))) (by rw [arrV_size]; exact n32_size hok) rfl rfl hd ?_
  exact kk p l e R s m args below meth c Z E F cM sM C1 H locs cells slots lv hR hF hS hL (okp (v := vI n) (n32 hok) (okt hst)) h1 h2
theorem stV_rng : ∀ k, 1 ≤ k → k ≤ 3 → ∀ j, j < stL k → 0 ≤ stV k j ∧ stV k j < 100000 := by
  intro k a b
  match k, a, b with
  | 1, _, _ => decide +kernel
  | 2, _, _ => decide +kernel
  | 3, _, _ => decide +kernel
theorem V.gets {index : Nat} (k : Nat) (hk1 : 1 ≤ k) (hk2 : k ≤ 3) (hw : Cond.fieldLink M.1.cls index "RiverRoad" (stN k) "[I" ∈ lw_tbl) (hd : decode M.2.1 pc = .ok (.getstatic index, 3)) (kk : V M d (pc + 3) ls (vS k :: st) h sz kc ks Q) : V M d pc ls st h sz kc ks Q := by
  intro p l e R s m args below meth c Z E F cM sM C1 H locs cells slots lv hR hF hS hL hst h1 h2
  obtain ⟨⟨hx, hb, hml, hown, hnm⟩, hSF, hFF, hrm, hret⟩ := id C1
  have hZ := (hSF.2.2.2.2.2.2.2.2.2 k hk1 hk2).1
  have hS2 : va_S (fun q => eb E ≤ q) s.heap H locs := ⟨hS.1, fun q a b => hS.2.1 q a (fun z => b (hFF.2 q z)), fun q hq => hFF.2 _ (hS.2.2 q hq)⟩
  exact va_gets hx hb hZ hS2 hown (hSF.w hw rfl args) (fun _ z => z) hd (kk p l e R s m args below meth c Z E F cM sM C1 H locs cells slots lv hR hF hS hL (okp (v := vS k) trivial hst) h1 h2)
theorem V.sald {i : Int} (k : Nat) (hk1 : 1 ≤ k) (hk2 : k ≤ 3) (hd : decode M.2.1 pc = .ok (.iaload, 1)) (h0 : 0 ≤ i) (h9 : i < stL k) (kk : V M d (pc + 1) ls (vI (stV k i.toNat) :: st) h sz kc ks Q) : V M d pc ls (vI i :: vS k :: st) h sz kc ks Q := by
  intro p l e R s m args below meth c Z E F cM sM C1 H locs cells slots lv hR hF hS hL hst h1 h2
  obtain ⟨⟨hx, hb, hml, hown, hnm⟩, hSF, hFF, hrm, hret⟩ := id C1
  have hi : i32 i := okh hst
  obtain ⟨cell, a1, a2, a3, a4, a5, a6, a7⟩ := (hSF.2.2.2.2.2.2.2.2.2 k hk1 hk2).2
  have hH : H[E.2.2.2 k]? = some cell := by
    rw [hS.2.1 _ (Array.getElem?_eq_some_iff.mp a1).1 (fun z => a7 (hFF.2 _ z))]; exact a1
  refine W.iald (v := .int (Int32.ofInt (stV k i.toNat))) hx hb hH a2 a3 (fun q => i32_in hi h0 h9 (q.elim Or.inl (fun z => Or.inr (Nat.le_trans a4 z)))) (by rw [i32_cl hi]; exact a6 _ (by omega)) rfl rfl hd ?_
  exact kk p l e R s m args below meth c Z E F cM sM C1 H locs cells slots lv hR hF hS hL (okp (v := vI _) (by have := stV_rng k hk1 hk2 i.toNat (by omega); show i32 _; unfold i32; omega) (okt (okt hst))) h1 h2
theorem V.ldc {index : Nat} {v : Int32} (z : Int) (hw : Cond.constant M.1.cls index v ∈ lw_tbl) (hv : v = Int32.ofInt z) (hz : i32 z) (hd : decode M.2.1 pc = .ok (.ldc index, 2)) (kk : V M d (pc + 2) ls (vI z :: st) h sz kc ks Q) : V M d pc ls st h sz kc ks Q := by
  intro p l e R s m args below meth c Z E F cM sM C1 H locs cells slots lv hR hF hS hL hst h1 h2
  obtain ⟨⟨hx, hb, hml, hown, hnm⟩, hSF, hFF, hrm, hret⟩ := id C1
  subst hv
  exact lv_ldc hx hb hown (hSF.w hw rfl args) hd (kk p l e R s m args below meth c Z E F cM sM C1 H locs cells slots lv hR hF hS hL (okp (v := vI z) hz hst) h1 h2)
theorem V.ldc2 {index : Nat} {v : Int64} (z : Int) (hw : Cond.constantLong M.1.cls index v ∈ lw_tbl) (hv : v = Int64.ofInt z) (hz : i64 z) (hd : decode M.2.1 pc = .ok (.ldc2_w index, 3)) (kk : V M d (pc + 3) ls (vL z :: st) h sz kc ks Q) : V M d pc ls st h sz kc ks Q := by
  intro p l e R s m args below meth c Z E F cM sM C1 H locs cells slots lv hR hF hS hL hst h1 h2
  obtain ⟨⟨hx, hb, hml, hown, hnm⟩, hSF, hFF, hrm, hret⟩ := id C1
  subst hv
  exact W.ldc2 (g := F0 m pc lv (st.map (cv E))) hx hb hown (hSF.w hw rfl args) rfl hd (kk p l e R s m args below meth c Z E F cM sM C1 H locs cells slots lv hR hF hS hL (okp (v := vL z) hz hst) h1 h2)
theorem recv {E : Ev} {s : State} {ci N : Nat} {C : String} {T : u_T} {ty : Nat → FieldType} {a : Nat} {fs : List MV} {H : Heap} (hSF : SF E s) (hR : RW E h sz H) (hC : Cls ci C T N ty) (ha : h a = some (kO ci fs)) : ∃ cell : Cell, H[eb E + a]? = some cell ∧ cell.vm.isStatics = false ∧ s.vm.findClass C = some cell.cls := by
  obtain ⟨hokb, r, hr1, cellV, g1, g2, g3, g4⟩ := hR.2 a _ ha
  exact ⟨cellV, g1, by rw [g3]; rfl, by rw [g2]; exact (hSF.1.1 ci _ hC.1).2.1⟩
/-- instanceof: C may be cast to nm, is nm, may not be cast to nm -/
theorem V.instY {index ci N : Nat} {C : String} {T : u_T} {ty : Nat → FieldType} {a : Nat} {fs : List MV} (nm : String) (hC : Cls ci C T N ty) (hca : C = nm ∨ (C, nm) ∈ caL) (hw : Cond.classLink M.1.cls index nm ∈ lw_tbl) (hd : decode M.2.1 pc = .ok (.instanceof index, 3)) (ha : h a = some (kO ci fs)) (kk : V M d (pc + 3) ls (vI 1 :: st) h sz kc ks Q) : V M d pc ls (vR a :: st) h sz kc ks Q := by
  intro p l e R s m args below meth c Z E F cM sM C1 H locs cells slots lv hR hF hS hL hst h1 h2
  obtain ⟨⟨hx, hb, hml, hown, hnm⟩, hSF, hFF, hrm, hret⟩ := id C1
  have hr := recv hSF hR hC ha
  have hk := kk p l e R s m args below meth c Z E F cM sM C1 H locs cells slots lv hR hF hS hL (okp (v := vI 1) (by show i32 1; unfold i32; omega) (okt hst)) h1 h2
  rcases hca with e1 | hca
  · subst e1
    exact va_instS hx hb hown (hSF.w hw rfl args) (hSF.1.1 ci _ hC.1).2 hr hd hk
  · exact va_instY hx hb hown (hSF.w hw rfl args) (hSF.2.2.1 _ hca) hr hd hk
theorem V.instNo {index ci N : Nat} {C : String} {T : u_T} {ty : Nat → FieldType} {a : Nat} {fs : List MV} (nm : String) (hC : Cls ci C T N ty) (hca : (C, nm) ∈ ncL) (hw : Cond.classLink M.1.cls index nm ∈ lw_tbl) (hd : decode M.2.1 pc = .ok (.instanceof index, 3)) (ha : h a = some (kO ci fs)) (kk : V M d (pc + 3) ls (vI 0 :: st) h sz kc ks Q) : V M d pc ls (vR a :: st) h sz kc ks Q := by
  intro p l e R s m args below meth c Z E F cM sM C1 H locs cells slots lv hR hF hS hL hst h1 h2
  obtain ⟨⟨hx, hb, hml, hown, hnm⟩, hSF, hFF, hrm, hret⟩ := id C1
  exact va_instNo hx hb hown (hSF.w hw rfl args) (hSF.2.2.2.2.2.1 _ hca) (recv hSF hR hC ha) hd (kk p l e R s m args below meth c Z E F cM sM C1 H locs cells slots lv hR hF hS hL (okp (v := vI 0) i32_0 (okt hst)) h1 h2)
theorem V.instN {index : Nat} (hd : decode M.2.1 pc = .ok (.instanceof index, 3)) (kk : V M d (pc + 3) ls (vI 0 :: st) h sz kc ks Q) : V M d pc ls (vN :: st) h sz kc ks Q := by
  intro p l e R s m args below meth c Z E F cM sM C1 H locs cells slots lv hR hF hS hL hst h1 h2
  obtain ⟨⟨hx, hb, hml, hown, hnm⟩, hSF, hFF, hrm, hret⟩ := id C1
  exact lv_instN hx hb hd (kk p l e R s m args below meth c Z E F cM sM C1 H locs cells slots lv hR hF hS hL (okp (v := vI 0) i32_0 (okt hst)) h1 h2)
theorem V.castY {index ci N : Nat} {C : String} {T : u_T} {ty : Nat → FieldType} {a : Nat} {fs : List MV} (nm : String) (hC : Cls ci C T N ty) (hca : C = nm ∨ (C, nm) ∈ caL) (hw : Cond.classLink M.1.cls index nm ∈ lw_tbl) (hd : decode M.2.1 pc = .ok (.checkcast index, 3)) (ha : h a = some (kO ci fs)) (kk : V M d (pc + 3) ls (vR a :: st) h sz kc ks Q) : V M d pc ls (vR a :: st) h sz kc ks Q := by
  intro p l e R s m args below meth c Z E F cM sM C1 H locs cells slots lv hR hF hS hL hst h1 h2
  obtain ⟨⟨hx, hb, hml, hown, hnm⟩, hSF, hFF, hrm, hret⟩ := id C1
  have hr := recv hSF hR hC ha
  have hk := kk p l e R s m args below meth c Z E F cM sM C1 H locs cells slots lv hR hF hS hL hst h1 h2
  rcases hca with e1 | hca
  · subst e1
    exact va_castS hx hb hown (hSF.w hw rfl args) (hSF.1.1 ci _ hC.1).2 hr hd hk
  · exact va_castY hx hb hown (hSF.w hw rfl args) (hSF.2.2.1 _ hca) hr hd hk
theorem V.castA {index t n a : Nat} {f : Nat → Int} (hw : Cond.classLink M.1.cls index "[I" ∈ lw_tbl) (hd : decode M.2.1 pc = .ok (.checkcast index, 3)) (ha : h a = some (kA t n f)) (kk : V M d (pc + 3) ls (vR a :: st) h sz kc ks Q) : V M d pc ls (vR a :: st) h sz kc ks Q := by
  intro p l e R s m args below meth c Z E F cM sM C1 H locs cells slots lv hR hF hS hL hst h1 h2
  obtain ⟨⟨hx, hb, hml, hown, hnm⟩, hSF, hFF, hrm, hret⟩ := id C1
  obtain ⟨hok, hat⟩ := hR.2 a _ ha
  have hP : va_P E.1 classes [(eb E + a, .inl (E.2.1 0, n, .inl (fun j => Int32.ofInt (f j))))] H := fun j q hq => by
    match j, hq with
    | 0, hq => cases hq; exact hat
    | j + 1, hq => cases hq
  exact va_castA hx hb hown (hSF.w hw rfl args) hP 0 rfl (hSF.1.2 0 _ rfl).2 hd (kk p l e R s m args below meth c Z E F cM sM C1 H locs cells slots lv hR hF hS hL hst h1 h2)
theorem V.objInit {index : Nat} {a : Nat} (hw1 : Cond.methodLink M.1.cls index Lib.objectInit ∈ lw_tbl) (hd1 : 1 ≤ d) (hst9 : st.length ≤ 4) (hd : decode M.2.1 pc = .ok (.invokespecial index, 3)) (kk : V M d (pc + 3) ls st h sz kc ks Q) : V M d pc ls (vR a :: st) h sz kc ks Q := by
  intro p l e R s m args below meth c Z E F cM sM C1 H locs cells slots lv hR hF hS hL hst h1 h2
  obtain ⟨⟨hx, hb, hml, hown, hnm⟩, hSF, hFF, hrm, hret⟩ := id C1
  have hcat : ∀ (st : List MV), ((st.map (cv E)).map fun v => v.category).sum ≤ 2 * st.length := by
    intro st
    induction st with
    | nil => exact Nat.le_refl _
    | cons v t ih =>
      rw [List.map_cons, List.map_cons, List.sum_cons, List.length_cons]
      have := lv_cat (cv E v)
      omega
  have := hcat st
  refine W.objInit hx hb hown (hSF.w hw1 rfl args) (hSF.w (w := .instanceMethod Lib.objectInit) (by decide +kernel) rfl args) (hSF.w (w := .code Lib.objectInit ⟨#[0xb1]⟩ 1 none) (by decide +kernel) rfl args) rfl (by rw [hml]; exact hL.1) rfl hd (by omega) (by show 2 * 0 + _ + 12 ≤ _; omega) ?_
  exact kk p l e R s m args below meth c Z E F cM sM C1 H locs cells slots lv hR hF hS hL (okt hst) h1 h2
theorem V.mmax {index : Nat} {x y : Int} (hw1 : Cond.methodLink M.1.cls index Lib.Math.max.name ∈ lw_tbl) (hd1 : 1 ≤ d) (hst9 : st.length ≤ 4) (hd : decode M.2.1 pc = .ok (.invokestatic index, 3)) (kk : V M d (pc + 3) ls (vI (if x < y then y else x) :: st) h sz kc ks Q) : V M d pc ls (vI y :: vI x :: st) h sz kc ks Q := by
  intro p l e R s m args below meth c Z E F cM sM C1 H locs cells slots lv hR hF hS hL hst h1 h2
  obtain ⟨⟨hx, hb, hml, hown, hnm⟩, hSF, hFF, hrm, hret⟩ := id C1
  have hcat : ∀ (st : List MV), ((st.map (cv E)).map fun v => v.category).sum ≤ 2 * st.length := by
    intro st
    induction st with
    | nil => exact Nat.le_refl _
    | cons v t ih =>
      rw [List.map_cons, List.map_cons, List.sum_cons, List.length_cons]
      have := lv_cat (cv E v)
      omega
  have := hcat st
  have hy : i32 y := okh hst
  have hxx : i32 x := okh (okt hst)
  have hk := kk p l e R s m args below meth c Z E F cM sM C1 H locs cells slots lv hR hF hS hL (okp (v := vI _) (by show i32 _; split <;> assumption) (okt (okt hst))) h1 h2
  refine va_mmax hx hb (by rw [hml]; exact hL.1.symm) hown (hSF.w hw1 rfl args) (hSF.w (w := .static Lib.Math.max.name) (by decide +kernel) rfl args) (hSF.w (w := .initialized "java/lang/Math") (by decide +kernel) rfl args) (hSF.w (w := .code Lib.Math.max.name Lib.Math.max.code 2 (some .int)) (by decide +kernel) rfl args) (by omega) (by omega) (by omega) (by omega) hd ?_
  have e9 : (if Int32.ofInt x < Int32.ofInt y then Int32.ofInt y else Int32.ofInt x) = Int32.ofInt (if x < y then y else x) := by
    simp only [i32_lt hxx hy]; split <;> rfl
  rw [e9]
  exact hk
theorem V.mmin {index : Nat} {x y : Int} (hw1 : Cond.methodLink M.1.cls index Lib.Math.min.name ∈ lw_tbl) (hd1 : 1 ≤ d) (hst9 : st.length ≤ 4) (hd : decode M.2.1 pc = .ok (.invokestatic index, 3)) (kk : V M d (pc + 3) ls (vI (if y < x then y else x) :: st) h sz kc ks Q) : V M d pc ls (vI y :: vI x :: st) h sz kc ks Q := by
  intro p l e R s m args below meth c Z E F cM sM C1 H locs cells slots lv hR hF hS hL hst h1 h2
  obtain ⟨⟨hx, hb, hml, hown, hnm⟩, hSF, hFF, hrm, hret⟩ := id C1
  have hcat : ∀ (st : List MV), ((st.map (cv E)).map fun v => v.category).sum ≤ 2 * st.length := by
    intro st
    induction st with
    | nil => exact Nat.le_refl _
    | cons v t ih =>
      rw [List.map_cons, List.map_cons, List.sum_cons, List.length_cons]
      have := lv_cat (cv E v)
      omega
  have := hcat st
  have hy : i32 y := okh hst
  have hxx : i32 x := okh (okt hst)
  have hk := kk p l e R s m args below meth c Z E F cM sM C1 H locs cells slots lv hR hF hS hL (okp (v := vI _) (by show i32 _; split <;> assumption) (okt (okt hst))) h1 h2
  refine va_mmin hx hb (by rw [hml]; exact hL.1.symm) hown (hSF.w hw1 rfl args) (hSF.w (w := .static Lib.Math.min.name) (by decide +kernel) rfl args) (hSF.w (w := .initialized "java/lang/Math") (by decide +kernel) rfl args) (hSF.w (w := .code Lib.Math.min.name Lib.Math.min.code 2 (some .int)) (by decide +kernel) rfl args) (by omega) (by omega) (by omega) (by omega) hd ?_
  have e9 : (if Int32.ofInt y < Int32.ofInt x then Int32.ofInt y else Int32.ofInt x) = Int32.ofInt (if y < x then y else x) := by
    simp only [i32_lt hy hxx]; split <;> rfl
  rw [e9]
  exact hk
end HR2
end
section
/-! RULES: copies of arrays -/
theorem cat4 (E : Ev) (st : List MV) : ((st.map (cv E)).map fun v => v.category).sum ≤ 2 * st.length := by
  induction st with
  | nil => exact Nat.le_refl _
  | cons v t ih =>
    rw [List.map_cons, List.map_cons, List.sum_cons, List.length_cons]
    have := lv_cat (cv E v)
    omega
/-- a stretch of f, of n places from sp on, laid over g from dp on -/
def cpf (f g : Nat → Int) (sp dp n : Nat) : Nat → Int := fun k => if dp ≤ k ∧ k < dp + n then f (sp + (k - dp)) else g k
section HR3
variable {M : MD} {d pc : Nat} {ls : List (Option MV)} {st : List MV} {h : MH} {sz kc ks : Nat} {Q : QT}
theorem V.acopy {index a0 t0 n0 a t n1 : Nat} {f g : Nat → Int} {sp dp n : Int} (hw1 : Cond.methodLink M.1.cls index arraycopyName ∈ lw_tbl) (hd1 : 2 ≤ d) (hst9 : st.length ≤ 4) (hd : decode M.2.1 pc = .ok (.invokestatic index, 3)) (ha0 : h a0 = some (kA t0 n0 f)) (ha : h a = some (kA t n1 g)) (c1 : 0 ≤ sp) (c2 : 0 ≤ dp) (c3 : 0 ≤ n) (c4 : sp + n ≤ n0) (c5 : dp + n ≤ n1)
    (kk : V M d (pc + 3) ls st (hset h a (kA t n1 (cpf f g sp.toNat dp.toNat n.toNat))) sz kc ks Q) : V M d pc ls (vI n :: vI dp :: vR a :: vI sp :: vR a0 :: st) h sz kc ks Q := by
  intro p l e R s m args below meth c Z E F cM sM C1 H locs cells slots lv hR hF hS hL hst h1 h2
  obtain ⟨⟨hx, hb, hml, hown, hnm⟩, hSF, hFF, hrm, hret⟩ := id C1
  have hn : i32 n := okh hst
  have hdp : i32 dp := okh (okt hst)
  have hsp : i32 sp := okh (okt (okt (okt hst)))
  have nz : ∀ {z : Int}, i32 z → 0 ≤ z → ¬ Int32.ofInt z < 0 := fun {z} hz h0 => by rw [show (0 : Int32) = Int32.ofInt 0 from rfl, i32_lt hz i32_0]; omega
  have hc4 := cat4 E st
  have hnf : nativeFrameWords "java/lang/System" "arraycopy" 5 ≤ 40 := by decide +kernel
  obtain ⟨hok0, hat0⟩ := hR.2 a0 _ ha0
  obtain ⟨hok, hat⟩ := hR.2 a _ ha
  have hat0 : H[eb E + a0]? = some (arrV (E.2.1 0) n0 (fun j => .int (Int32.ofInt (f j)))) := hat0
  have hat : H[eb E + a]? = some (arrV (E.2.1 0) n1 (fun j => .int (Int32.ofInt (g j)))) := hat
  intro T hT X
  obtain ⟨-, k0, hk0, cm0, hkk0⟩ := (hSF.1.2 0 _ rfl).1 n0 (fun j => .int (Int32.ofInt (f j)))
  obtain ⟨-, k1, hk1, cm1, hkk1⟩ := (hSF.1.2 0 _ rfl).1 n1 (fun j => .int (Int32.ofInt (g j)))
  obtain ⟨vm', X', step⟩ := X.arraycopy hx hown (hSF.w hw1 rfl args) (hSF.w (w := .native arraycopyName) (by decide +kernel) rfl args) (hSF.w (w := .static arraycopyName) (by decide +kernel) rfl args) (hSF.w (w := .initialized "java/lang/System") (by decide +kernel) rfl args)
    (src := eb E + a0) (dst := eb E + a) (cs := arrV (E.2.1 0) n0 (fun j => .int (Int32.ofInt (f j)))) (cd := arrV (E.2.1 0) n1 (fun j => .int (Int32.ofInt (g j)))) (srcPos := Int32.ofInt sp) (destPos := Int32.ofInt dp) (n := Int32.ofInt n) (by rw [hT]; exact hat0) (by rw [hT]; exact hat)
    (fun _ q => by cases q) (fun _ q => by cases q) (fun q => by cases q) (fun q => by cases q) hk0 hk1 hkk0 hkk1 (by simp [refKind]) (nz hsp c1) (nz hdp c2) (nz hn c3)
    (by rw [i32_to hsp, i32_to hn, arrV_size]; omega)
    (by rw [i32_to hdp, i32_to hn, arrV_size]; omega)
    (fun vm₁ _ i hi => by
      rw [i32_cl hn] at hi
      have e9 : (arrV (E.2.1 0) n0 (fun j => Value.int (Int32.ofInt (f j)))).slots.getD ((Int32.ofInt sp).toNatClampNeg + i) .null = .int (Int32.ofInt (f (sp.toNat + i))) := by
        rw [i32_cl hsp, Array.getD_eq_getD_getElem?, arrV_read _ _ (by omega)]
        rfl
      refine ⟨?_, ?_⟩
      · rw [e9]; rfl
      · rw [e9]; exact trivial)
    (g := F0 m pc lv ((vI n :: vI dp :: vR a :: vI sp :: vR a0 :: st).map (cv E))) rfl (by rw [hml]; exact hL.1) (rest := st.map (cv E)) rfl (by rw [hb]; exact hd) (by omega) (by show 2 * 0 + _ + (nativeFrameWords "java/lang/System" "arraycopy" 5 + 11) ≤ _; omega)
  have e1 : copied (arrV (E.2.1 0) n0 (fun j => .int (Int32.ofInt (f j)))) (arrV (E.2.1 0) n1 (fun j => .int (Int32.ofInt (g j)))) (Int32.ofInt sp) (Int32.ofInt dp) (Int32.ofInt n) = arrV (E.2.1 0) n1 (fun j => .int (Int32.ofInt (cpf f g sp.toNat dp.toNat n.toNat j))) := by
    have q := va_copied (fun z => Value.int (Int32.ofInt z)) (E.2.1 0) (E.2.1 0) (n0 := n0) (n1 := n1) (sp := sp.toNat) (dp := dp.toNat) (n := n.toNat) f g (by omega)
    unfold copied
    rw [i32_cl hsp, i32_cl hdp, i32_cl hn]
    exact q
  rw [e1] at X' step
  generalize hCe : arrV (E.2.1 0) n1 (fun j => Value.int (Int32.ofInt (cpf f g sp.toNat dp.toNat n.toNat j))) = CC at X' step
  have hl : eb E + a < H.size := (Array.getElem?_eq_some_iff.mp hat).1
  have hheap : ((T.setVm vm').setCell (eb E + a) CC).heap = H.setIfInBounds (eb E + a) CC := by rw [← hT]; rfl
  have oq : ∀ q : Nat, q ≠ eb E + a → (H.setIfInBounds (eb E + a) CC)[q]? = H[q]? := fun q hq => by simp [Array.getElem?_setIfInBounds, Ne.symm hq]
  have hz : (H.setIfInBounds (eb E + a) CC).size = H.size := by simp
  have hR2 : RW E (hset h a (kA t n1 (cpf f g sp.toNat dp.toNat n.toNat))) sz (H.setIfInBounds (eb E + a) CC) := by
    refine hR.set hz oq ⟨hok.1, fun j hj => ⟨?_, fun q => by cases q⟩⟩ ?_
    · unfold cpf; split
      · exact (hok0.2 _ (by omega)).1
      · exact (hok.2 j hj).1
    · show (H.setIfInBounds (eb E + a) CC)[eb E + a]? = some (arrV (E.2.1 0) n1 (fun j => .int (Int32.ofInt (cpf f g sp.toNat dp.toNat n.toNat j))))
      rw [hCe]
      simp [Array.getElem?_setIfInBounds, hl]
  obtain ⟨t9, a1, b1⟩ := kk p l e R s m args below meth c Z E F cM sM C1 _ _ cells slots lv hR2 (hset_F hF (hF a _ ha)) ⟨by rw [hz]; exact hS.1, fun q q1 q2 => by
      rw [oq q (fun e9 => q2 (by rw [e9]; exact hF a _ ha))]
      exact hS.2.1 q q1 q2, fun q hq => by
      rcases List.mem_append.mp hq with q1 | q1
      · exact hS.2.2 q q1
      · obtain ⟨z, -, hz⟩ := List.mem_map.mp q1
        rw [← hz]
        exact hF a _ ha⟩ hL (okt (okt (okt (okt (okt hst))))) h1 h2 _ hheap X'
  exact ⟨t9, step t9 a1, b1⟩
theorem V.aclone {index a t0 n : Nat} {f : Nat → Int} (t : Nat) {kc2 ks2 : Nat} (hw1 : Cond.methodLink M.1.cls index ⟨"[I", "clone", "()Ljava/lang/Object;"⟩ ∈ lw_tbl) (hd1 : 1 ≤ d) (hst9 : st.length ≤ 4) (hd : decode M.2.1 pc = .ok (.invokevirtual index, 3)) (ha : h a = some (kA t0 n f)) (g1 : kc2 + 1 ≤ kc) (g2 : ks2 + n ≤ ks)
    (kk : V M d (pc + 3) ls (vR sz :: st) (hset h sz (kA t n f)) (sz + 1) kc2 ks2 Q) : V M d pc ls (vR a :: st) h sz kc ks Q := by
  intro p l e R s m args below meth c Z E F cM sM C1 H locs cells slots lv hR hF hS hL hst h1 h2
  obtain ⟨⟨hx, hb, hml, hown, hnm⟩, hSF, hFF, hrm, hret⟩ := id C1
  have := cat4 E st
  obtain ⟨hok, hat⟩ := hR.2 a _ ha
  have hat : H[eb E + a]? = some (arrV (E.2.1 0) n (fun j => .int (Int32.ofInt (f j)))) := hat
  have hnmA : s.vm.findClass "[I" = some (E.2.1 0) := (hSF.1.2 0 _ rfl).2
  obtain ⟨c0, t1, f1, f2, f3⟩ := Cond.castable_spec (va_Nw.use (A := args) rfl (hSF.2.2.1 ("[I", "java/lang/Cloneable") (by decide +kernel)))
  cases hnmA.symm.trans f1
  have hsz : H.size = eb E + sz := hR.1
  intro T hT X
  obtain ⟨-, kA', hkA', comp, hkind⟩ := State.isArrayOf_alike X.warmed.alike ((hSF.1.2 0 _ rfl).1 0 (fun _ => .null))
  obtain ⟨-, kS, hkS, compS, hkindS⟩ := (hSF.1.2 0 _ rfl).1 0 (fun _ => .null)
  obtain ⟨vm', X', stp⟩ := X.cloneArray hx hown (hSF.w hw1 rfl args) (hSF.w (w := .sameMethod "[I" "java/lang/Object" "clone" "()Ljava/lang/Object;") (by decide +kernel) rfl args) (hSF.w (w := .native ⟨"java/lang/Object", "clone", "()Ljava/lang/Object;"⟩) (by decide +kernel) rfl args) (hSF.w (w := .instanceMethod ⟨"java/lang/Object", "clone", "()Ljava/lang/Object;"⟩) (by decide +kernel) rfl args) (hSF.w (w := .selects "[I" ⟨"[I", "clone", "()Ljava/lang/Object;"⟩ ⟨"java/lang/Object", "clone", "()Ljava/lang/Object;"⟩) (by decide +kernel) rfl args)
    (a := eb E + a) (cell := arrV (E.2.1 0) n (fun j => .int (Int32.ofInt (f j)))) (by rw [hT]; exact hat) (fun k q => by cases q) (fun q => by cases q) hnmA f2 f3
    (fun i v hv => by
      have hk' : T.vm.classes[E.2.1 0]? = some kA' := hkA'
      have hlt : i < n := by
        have := (Array.getElem?_eq_some_iff.mp hv).1
        rw [arrV_size] at this; exact this
      rw [arrV_read _ _ hlt] at hv
      cases hv
      simp [State.fitsSlot, State.slotType?, arrV, hk', hkind, fits])
    (g := F0 m pc lv ((vR a :: st).map (cv E))) rfl (by rw [hml]; exact hL.1) (rest := st.map (cv E)) rfl (by rw [hb]; exact hd) (by omega) (by show 2 * 0 + _ + 14 ≤ _; omega) (by omega) (by rw [arrV_size]; omega) (hloader := Vm.clonesLoader_of_array hkS hkindS)
  have hce : ({ cls := (arrV (E.2.1 0) n (fun j => Value.int (Int32.ofInt (f j)))).cls, slots := (arrV (E.2.1 0) n (fun j => Value.int (Int32.ofInt (f j)))).slots } : Cell) = arrV (E.2.1 0) n (fun j => Value.int (Int32.ofInt (f j))) := rfl
  rw [hce, arrV_size] at X'
  rw [hce, hT] at stp
  generalize hCe : arrV (E.2.1 0) n (fun j => Value.int (Int32.ofInt (f j))) = CC at X' stp
  generalize hH1 : H.push CC = H1
  have z1 : H1.size = H.size + 1 := by rw [← hH1, Array.size_push]
  have e1 : H1[H.size]? = some CC := by rw [← hH1, Array.getElem?_push_size]
  have o1 : ∀ q : Nat, q < H.size → H1[q]? = H[q]? := fun q hq => by rw [← hH1, Array.getElem?_push, if_neg (Nat.ne_of_lt hq)]
  have hR2 : RW E (hset h sz (kA t n f)) (sz + 1) H1 := by
    refine hR.push z1 o1 ⟨hok.1, fun j hj => hok.2 j hj⟩ ?_
    rw [← hsz]
    show H1[H.size]? = some (arrV (E.2.1 0) n (fun j => .int (Int32.ofInt (f j))))
    rw [hCe]; exact e1
  obtain ⟨t9, a1, b1⟩ := kk p l e R s m args below meth c Z E F cM sM C1 H1 locs (cells + 1) (slots + n) lv hR2 (hset_F hF (by rw [← hsz]; exact hFF.1 _ hS.1)) (hS.push1 z1 o1) hL (okp (v := vR sz) trivial (okt hst)) (by omega) (by omega) ((T.setVm vm').pushCell CC) (by rw [← hH1, ← hT]; rfl) X'
  refine ⟨t9, stp t9 ?_, b1⟩
  rw [hsz]
  exact a1
end HR3
end
section
/-! RULES: calls -/
/-- a method that may be called, with n parameters -/
def MOK (M2 : MD) (n : Nat) : Prop := Cond.code M2.1 M2.2.1 M2.2.2.1 M2.2.2.2 ∈ lw_tbl ∧ Cond.initialized M2.1.cls ∈ lw_tbl ∧ (M2.1.cls ≠ "java/lang/invoke/MethodHandle" ∧ M2.1.cls ≠ "java/lang/invoke/VarHandle") ∧ (parseMethodDescriptor M2.1.desc).map (fun q => q.parameters.length) = some n ∧ M2.2.2.1 ≤ 21
theorem MOK.len {M2 : MD} {n : Nat} (h : MOK M2 n) : ∀ sig, parseMethodDescriptor M2.1.desc = some sig → n = sig.parameters.length := fun sig q => by
  have h2 := h.2.2.2.1
  rw [q] at h2
  exact (Option.some.inj h2).symm
def hov (h2 h hc : MH) (sz : Nat) : MH := fun a => match h2 a with
  | some c => some c
  | none => if hc a = none ∧ a < sz then h a else none
theorem hov_self (h2 h : MH) (sz : Nat) : hov h2 h h sz = h2 := by
  funext a
  unfold hov
  cases e : h2 a with
  | some c => rfl
  | none =>
    simp only
    by_cases q : h a = none
    · rw [q]; split <;> rfl
    · rw [if_neg (fun z => q z.1)]
theorem cPre_blind (E : Ev) (as : List MV) (h : MH) (sz : Nat) : FrameBlind (cPre E as h sz) := by
  intro a U g mk q
  obtain ⟨q1, q2, q3, q4⟩ := q
  exact ⟨q1, q2, q3.warm (U := U.calling g mk a) (State.WarmedH.refl U) q3.base (fun _ _ _ => rfl), q4⟩
section CALL
variable {M : MD} {d pc : Nat} {ls : List (Option MV)} {st : List MV} {h : MH} {sz kc ks : Nat} {Q : QT}
/-- what a call gives, in any state of the caller's walk -/
def RunC (M : MD) (d pc : Nat) (st0 st : List MV) (h : MH) (sz : Nat) (hc : MH) (mc ms : Nat) (Qc : QT) : Prop :=
  ∀ (p : Program) (l : Launch) (e : Env) (R : Room) (s : State) (m : MethodId) (args : Array Value) (below : List Frame) (meth : Method) (c : Code) (E : Ev) (F : Nat → Prop) (H : Heap) (locs : List Loc) (cells slots : Nat) (lv : Array Slot),
    (p.tables.exec = Jvm.exec ∧ c.code = M.2.1 ∧ c.maxLocals = M.2.2.1 ∧ s.vm.findClass M.1.cls = some m.cls) → SF E s → ((∀ q, s.heap.size ≤ q → F q) ∧ (∀ q, F q → eb E ≤ q)) → (d ≤ R.frames ∧ 40 * d ≤ R.locals) → RW E h sz H → RW E hc sz H → va_S F s.heap H locs → lv.size = M.2.2.1 → (∀ v ∈ st0, okV v) → cells + mc ≤ R.cells → slots + ms ≤ R.slots →
    ∃ a, va_Run p l e R s m args below meth c H locs cells slots mc ms (F0 m pc lv (st0.map (cv E))) (st.map (cv E)) (cPost E hc sz Qc a) (FR E hc sz)
theorem V.call {st0 : List MV} {hc : MH} {mc ms kc2 ks2 : Nat} {Qc : QT} (hrun : RunC M d pc st0 st h sz hc mc ms Qc) (hsub : ∀ a c, hc a = some c → h a = some c) (hst0 : (∀ v ∈ st0, okV v) → ∀ v ∈ st, okV v) (g1 : kc2 + mc ≤ kc) (g2 : ks2 + ms ≤ ks)
    (kk : ∀ (r : Option MV) (h2 : MH) (sz2 : Nat), Qc r h2 sz2 → V M d (pc + 3) ls (r.toList ++ st) (hov h2 h hc sz) sz2 kc2 ks2 Q) : V M d pc ls st0 h sz kc ks Q := by
  intro p l e R s m args below meth c Z E F cM sM C1 H locs cells slots lv hR hF hS hL hst h1 h2
  obtain ⟨⟨hx, hb, hml, hown, hnm⟩, hSF, hFF, hrm, hret⟩ := id C1
  have hRc : RW E hc sz H := ⟨hR.1, fun a c ha => hR.2 a c (hsub a c ha)⟩
  obtain ⟨a9, hr⟩ := hrun p l e R s m args below meth c E F H locs cells slots lv ⟨hx, hb, hml, hown⟩ hSF hFF ⟨hrm.1, hrm.2.1⟩ hR hRc hS hL.1 hst (by omega) (by omega)
  intro T hT X
  obtain ⟨v, st₀, t, T', L, h0, X', hLf, e1, e2, ⟨r, h3, sz3, hv, hokr, hq, hR3, hF3, hz3, hk3⟩, stp⟩ := hr T hT X
  have hve : v = r.map (cv E) := Outcome.returned.inj hv
  subst hve
  rw [h0] at hz3 hk3
  have hFRF : ∀ q, FR E hc sz q → F q := by
    intro q hq
    rcases hq with ⟨a, c, ha, rfl⟩ | hq
    · exact hF a c (hsub a c ha)
    · exact hFF.1 q (Nat.le_trans hS.1 (by rw [hR.1]; exact hq))
  have hkeep : ∀ a, hc a = none → a < sz → t.heap[eb E + a]? = H[eb E + a]? := by
    intro a n1 n2
    refine hk3 (eb E + a) (by rw [hR.1]; omega) ?_
    rintro (⟨b, c, hb1, hb2⟩ | q)
    · have : b = a := by omega
      subst this
      rw [n1] at hb1; cases hb1
    · omega
  have hR9 : RW E (hov h3 h hc sz) sz3 T'.heap := by
    rw [e1]
    refine ⟨hR3.1, fun a c ha => ?_⟩
    unfold hov at ha
    cases q3 : h3 a with
    | some c3 => rw [q3] at ha; cases ha; exact hR3.2 a c q3
    | none =>
      rw [q3] at ha
      simp only at ha
      split at ha
      · rename_i qq
        have := hR.2 a c ha
        exact ⟨this.1, this.2.kept (hkeep a qq.1 qq.2)⟩
      · cases ha
  have hF9 : ∀ a c, hov h3 h hc sz a = some c → F (eb E + a) := by
    intro a c ha
    unfold hov at ha
    cases q3 : h3 a with
    | some c3 => exact hFRF _ (hF3 a c3 q3)
    | none =>
      rw [q3] at ha
      simp only at ha
      split at ha
      · exact hF a c ha
      · cases ha
  have hS9 : va_S F s.heap T'.heap (locs ++ L) := by
    rw [e1]
    refine ⟨Nat.le_trans hS.1 hz3, fun q q1 q2 => ?_, fun q hq => ?_⟩
    · rw [hk3 q (Nat.lt_of_lt_of_le q1 hS.1) (fun z => q2 (hFRF q z))]
      exact hS.2.1 q q1 q2
    · rcases List.mem_append.mp hq with q1 | q1
      · exact hS.2.2 q q1
      · exact hFRF _ (hLf q q1)
  have hok9 : ∀ v ∈ r.toList ++ st, okV v := by
    intro w hw
    rcases List.mem_append.mp hw with q | q
    · exact hokr w (by cases r with
        | none => cases q
        | some r' => rw [List.mem_singleton.mp q])
    · exact hst0 hst w q
  obtain ⟨t2, a1, b1⟩ := kk r h3 sz3 hq p l e R s m args below meth c Z E F cM sM C1 T'.heap (locs ++ L) (cells + mc) (slots + ms) lv hR9 hF9 hS9 hL hok9 (by omega) (by omega) T' rfl X'
  refine ⟨t2, stp t2 ?_, b1⟩
  have e9 : (r.toList ++ st).map (cv E) = (r.map (cv E)).toList ++ st.map (cv E) := by cases r <;> rfl
  rw [e9] at a1
  exact a1
theorem pre_of {E : Ev} {F : Nat → Prop} {s U : State} {H : Heap} {locs : List Loc} {as : List MV} {hc : MH} (hSF : SF E s) (hFF : (∀ q, s.heap.size ≤ q → F q) ∧ (∀ q, F q → eb E ≤ q)) (hR : RW E hc sz H) (hS : va_S F s.heap H locs) (hok : ∀ v ∈ as, okV v) (hU : U.heap = H) (hW : s.WarmedH U.vm) : cPre E as hc sz (as.map (cv E)).toArray U := by
  refine ⟨rfl, hok, hSF.warm hW (by rw [hU, hR.1]; omega) (fun q q1 q2 => by rw [hU]; exact hS.2.1 q q1 (fun z => q2 (hFF.2 q z))), by rw [hU]; exact hR⟩
theorem code_good {E : Ev} {s : State} {M2 : MD} {n : Nat} (hSF : SF E s) (h : MOK M2 n) : ∀ w ∈ [Cond.code M2.1 M2.2.1 M2.2.2.1 M2.2.2.2], ∀ (a' : Array Value) (U : State), s.WarmedH U.vm → w.before a' U = true := by
  intro w hw a' U hW
  rw [List.mem_singleton.mp hw]
  exact word_at hW (Or.inl rfl) (hSF.w h.1 rfl #[])
theorem lroom {m : MethodId} {pc : Nat} {lv : Array Slot} {E : Ev} {st0 : List MV} (st : List MV) (h : st.length ≤ 4) : 2 * (F0 m pc lv (st0.map (cv E))).monitorRoom + ((st.map (cv E)).map fun v => v.category).sum ≤ 8 := by
  have := cat4 E st
  exact lv_room (by omega)
/-- a static method -/
theorem run_S {M2 : MD} {d2 mc ms n index : Nat} {as : List MV} {hc : MH} {Qc : QT} (hC : Ct M2 d2 mc ms as hc sz Qc) (ho : MOK M2 n) (hw1 : Cond.methodLink M.1.cls index M2.1 ∈ lw_tbl) (hw2 : Cond.static M2.1 ∈ lw_tbl) (hn : as.length = n) (hdd : d2 + 1 ≤ d) (h4 : st.length ≤ 4) (hd : decode M.2.1 pc = .ok (.invokestatic index, 3)) : RunC M d pc (as.reverse ++ st) st h sz hc mc ms Qc := by
  intro p l e R s m args below meth c E F H locs cells slots lv hB hSF hFF hrm hR hRc hS hlv hok hc1 hc2
  obtain ⟨hx, hb, hml, hown⟩ := hB
  have hoka : ∀ v ∈ as, okV v := fun v hv => hok v (List.mem_append_left _ (List.mem_reverse.mpr hv))
  have ho5 := ho.2.2.2.2
  refine ⟨(as.map (cv E)).toArray, va_runS (Ts := gT) (As := as.map (cv E)) (rest := st.map (cv E)) (n := n) (bytes := M2.2.1) (maxL := M2.2.2.1) (ret := M2.2.2.2) ⟨hx, hb, hml, hown, hSF.hts args⟩ (hC l E) ⟨⟨rfl, rfl, ?_, ?_, code_good hSF ho, List.mem_singleton.mpr rfl, hSF.w ho.1 rfl args, hSF.w ho.2.1 rfl args, ho.2.2.1, ho.len, hSF.w hw1 rfl args⟩, hSF.w hw2 rfl args⟩ ⟨cPre_blind E as hc sz, fun U hU hW => pre_of hSF hFF hRc hS hoka hU hW⟩ rfl (by rw [List.length_map]; exact hn) hlv (by show (as.reverse ++ st).map (cv E) = _; rw [List.map_append, List.map_reverse]) (lroom st h4) hd ⟨hc1, hc2⟩⟩
  · show d2 + 1 ≤ R.frames; omega
  · show 8 + (M2.2.2.1 + 11) + 40 * d2 ≤ R.locals; omega
/-- a method of the class itself, by its name's class -/
theorem run_V {M2 : MD} {d2 mc ms n index b ci N : Nat} {T : u_T} {ty : Nat → FieldType} {fs : List MV} {as : List MV} {hc : MH} {Qc : QT} (hC : Ct M2 d2 mc ms (vR b :: as) hc sz Qc) (ho : MOK M2 n) (hcl : Cls ci M2.1.cls T N ty) (hbo : h b = some (kO ci fs)) (hw1 : Cond.methodLink M.1.cls index M2.1 ∈ lw_tbl) (hw2 : Cond.instanceMethod M2.1 ∈ lw_tbl) (hw3 : Cond.selects M2.1.cls M2.1 M2.1 ∈ lw_tbl) (hn : as.length = n) (hdd : d2 + 1 ≤ d) (h4 : st.length ≤ 4) (hd : decode M.2.1 pc = .ok (.invokevirtual index, 3)) : RunC M d pc (as.reverse ++ vR b :: st) st h sz hc mc ms Qc := by
  intro p l e R s m args below meth c E F H locs cells slots lv hB hSF hFF hrm hR hRc hS hlv hok hc1 hc2
  obtain ⟨hx, hb, hml, hown⟩ := hB
  have hoka : ∀ v ∈ vR b :: as, okV v := fun v hv => by
    rcases List.mem_cons.mp hv with rfl | hv
    · trivial
    · exact hok v (List.mem_append_left _ (List.mem_reverse.mpr hv))
  have ho5 := ho.2.2.2.2
  refine ⟨((vR b :: as).map (cv E)).toArray, va_runV (Ts := gT) (C := M2.1.cls) (b := eb E + b) (As := as.map (cv E)) (rest := st.map (cv E)) (n := n) (bytes := M2.2.1) (maxL := M2.2.2.1) (ret := M2.2.2.2) ⟨hx, hb, hml, hown, hSF.hts args⟩ (hC l E) ⟨⟨rfl, rfl, ?_, ?_, code_good hSF ho, List.mem_singleton.mpr rfl, hSF.w ho.1 rfl args, hSF.w ho.2.1 rfl args, ho.2.2.1, ho.len, hSF.w hw1 rfl args⟩, hSF.w hw2 rfl args, hSF.w hw3 rfl args⟩ ⟨cPre_blind E (vR b :: as) hc sz, recv hSF hR hcl hbo, fun U hU hW => pre_of hSF hFF hRc hS hoka hU hW⟩ rfl (by rw [List.length_map]; exact hn) hlv (by show (as.reverse ++ vR b :: st).map (cv E) = _; rw [List.map_append, List.map_reverse]; rfl) (lroom st h4) hd ⟨hc1, hc2⟩⟩
  · show d2 + 1 ≤ R.frames; omega
  · show 8 + (M2.2.2.1 + 11) + 40 * d2 ≤ R.locals; omega
/-- a constructor -/
theorem run_I {M2 : MD} {d2 mc ms n index b : Nat} {as : List MV} {hc : MH} {Qc : QT} (hC : Ct M2 d2 mc ms (vR b :: as) hc sz Qc) (ho : MOK M2 n) (hr : M2.2.2.2 = none) (hi : M2.1.name = "<init>") (hw1 : Cond.methodLink M.1.cls index M2.1 ∈ lw_tbl) (hw2 : Cond.instanceMethod M2.1 ∈ lw_tbl) (hn : as.length = n) (hdd : d2 + 1 ≤ d) (h4 : st.length ≤ 4) (hd : decode M.2.1 pc = .ok (.invokespecial index, 3)) : RunC M d pc (as.reverse ++ vR b :: st) st h sz hc mc ms Qc := by
  intro p l e R s m args below meth c E F H locs cells slots lv hB hSF hFF hrm hR hRc hS hlv hok hc1 hc2
  obtain ⟨hx, hb, hml, hown⟩ := hB
  have hoka : ∀ v ∈ vR b :: as, okV v := fun v hv => by
    rcases List.mem_cons.mp hv with rfl | hv
    · trivial
    · exact hok v (List.mem_append_left _ (List.mem_reverse.mpr hv))
  have ho5 := ho.2.2.2.2
  have hcode := ho.1
  have hgood := code_good hSF ho
  have hM := hC l E
  rw [hr] at hcode hM hgood
  refine ⟨((vR b :: as).map (cv E)).toArray, va_runI (Ts := gT) (b := eb E + b) (As := as.map (cv E)) (rest := st.map (cv E)) (n := n) (bytes := M2.2.1) (maxL := M2.2.2.1) ⟨hx, hb, hml, hown, hSF.hts args⟩ hM ⟨⟨rfl, rfl, ?_, ?_, hgood, List.mem_singleton.mpr rfl, hSF.w hcode rfl args, hSF.w ho.2.1 rfl args, ho.2.2.1, ho.len, hSF.w hw1 rfl args⟩, hi, hSF.w hw2 rfl args⟩ ⟨cPre_blind E (vR b :: as) hc sz, fun U hU hW => pre_of hSF hFF hRc hS hoka hU hW⟩ rfl (by rw [List.length_map]; exact hn) hlv (by show (as.reverse ++ vR b :: st).map (cv E) = _; rw [List.map_append, List.map_reverse]; rfl) (lroom st h4) hd ⟨hc1, hc2⟩⟩
  · show d2 + 1 ≤ R.frames; omega
  · show 8 + (M2.2.2.1 + 11) + 40 * d2 ≤ R.locals; omega
/-- a nest mate's constructor -/
theorem run_IN {M2 : MD} {d2 mc ms b : Nat} {hc : MH} {Qc : QT} (hC : Ct M2 d2 mc ms [vR b] hc sz Qc) (ho : MOK M2 0) (hr : M2.2.2.2 = none) (hm : M2.1 = ⟨"RiverRoad$Trace", "<init>", "()V"⟩) (how : M.1.cls = "RiverRoad") (hdd : d2 + 1 ≤ d) (h4 : st.length ≤ 4) (hd : decode M.2.1 pc = .ok (.invokespecial 23, 3)) : RunC M d pc (vR b :: st) st h sz hc mc ms Qc := by
  intro p l e R s m args below meth c E F H locs cells slots lv hB hSF hFF hrm hR hRc hS hlv hok hc1 hc2
  obtain ⟨hx, hb, hml, hown⟩ := hB
  have hoka : ∀ v ∈ [vR b], okV v := fun v hv => by rw [List.mem_singleton.mp hv]; trivial
  have ho5 := ho.2.2.2.2
  have hcode := ho.1
  have hgood := code_good hSF ho
  have hM := hC l E
  rw [hr] at hcode hM hgood
  rw [how] at hown
  have hnw : (Cond.methodLinkNest "RiverRoad" 23 M2.1 "RiverRoad").before args s = true := by rw [hm]; exact va_Nw.use rfl hSF.2.2.2.2.1
  refine ⟨([vR b].map (cv E)).toArray, va_runIN (own := "RiverRoad") (host := "RiverRoad") (Ts := gT) (b := eb E + b) (As := []) (rest := st.map (cv E)) (n := 0) (bytes := M2.2.1) (maxL := M2.2.2.1) ⟨hx, hb, hml, hown, hSF.hts args⟩ hM ⟨⟨⟨rfl, rfl, ?_, ?_, hgood, List.mem_singleton.mpr rfl⟩, hSF.w hcode rfl args, hSF.w ho.2.1 rfl args, ho.2.2.1, ho.len, hnw⟩, by rw [hm], hSF.w (w := .instanceMethod M2.1) (by rw [hm]; decide +kernel) rfl args⟩ ⟨cPre_blind E [vR b] hc sz, fun U hU hW => pre_of hSF hFF hRc hS hoka hU hW⟩ rfl rfl hlv rfl (lroom st h4) hd ⟨hc1, hc2⟩⟩
  · show d2 + 1 ≤ R.frames; omega
  · show 8 + (M2.2.2.1 + 11) + 40 * d2 ≤ R.locals; omega
/-- a method that is named of one class (x), declared by 'owner', and taken of the receiver's (C) -/
theorem run_U {M2 : MD} {d2 mc ms n index b ci N : Nat} {C owner : String} {T : u_T} {ty : Nat → FieldType} {fs : List MV} {as : List MV} {hc : MH} {Qc : QT} (x : MethodName) (hC : Ct M2 d2 mc ms (vR b :: as) hc sz Qc) (ho : MOK M2 n) (hcl : Cls ci C T N ty) (hbo : h b = some (kO ci fs)) (hxn : (owner ≠ "java/lang/invoke/MethodHandle" ∧ owner ≠ "java/lang/invoke/VarHandle") ∧ (parseMethodDescriptor x.desc).map (fun q => q.parameters.length) = some n) (hw1 : Cond.methodLink M.1.cls index x ∈ lw_tbl) (hw4 : Cond.sameMethod x.cls owner x.name x.desc ∈ lw_tbl) (hw5 : (⟨owner, x.name, x.desc⟩ : MethodName) ∈ deL) (hw2 : Cond.instanceMethod M2.1 ∈ lw_tbl) (hw3 : Cond.selects C x M2.1 ∈ lw_tbl) (hn : as.length = n) (hdd : d2 + 1 ≤ d) (h4 : st.length ≤ 4) (hd : decode M.2.1 pc = .ok (.invokevirtual index, 3)) : RunC M d pc (as.reverse ++ vR b :: st) st h sz hc mc ms Qc := by
  intro p l e R s m args below meth c E F H locs cells slots lv hB hSF hFF hrm hR hRc hS hlv hok hc1 hc2
  obtain ⟨hx, hb, hml, hown⟩ := hB
  have hoka : ∀ v ∈ vR b :: as, okV v := fun v hv => by
    rcases List.mem_cons.mp hv with rfl | hv
    · trivial
    · exact hok v (List.mem_append_left _ (List.mem_reverse.mpr hv))
  have ho5 := ho.2.2.2.2
  have hlen : ∀ sig, parseMethodDescriptor x.desc = some sig → n = sig.parameters.length := fun sig q => by
    have h2 := hxn.2
    rw [q] at h2
    exact (Option.some.inj h2).symm
  refine ⟨((vR b :: as).map (cv E)).toArray, va_runU (Ts := gT) (C := C) (owner := owner) (x := x) (b := eb E + b) (As := as.map (cv E)) (rest := st.map (cv E)) (n := n) (bytes := M2.2.1) (maxL := M2.2.2.1) (ret := M2.2.2.2) ⟨hx, hb, hml, hown, hSF.hts args⟩ (hC l E) ⟨⟨rfl, rfl, ?_, ?_, code_good hSF ho, List.mem_singleton.mpr rfl⟩, hSF.w ho.1 rfl args, hSF.w ho.2.1 rfl args, hxn.1, hlen, hSF.w hw1 rfl args, hSF.w hw4 rfl args, va_Decl.abs (hSF.2.2.2.1 _ hw5), hSF.w hw3 rfl args, hSF.w hw2 rfl args⟩ ⟨cPre_blind E (vR b :: as) hc sz, recv hSF hR hcl hbo, fun U hU hW => pre_of hSF hFF hRc hS hoka hU hW⟩ rfl (by rw [List.length_map]; exact hn) hlv (by show (as.reverse ++ vR b :: st).map (cv E) = _; rw [List.map_append, List.map_reverse]; rfl) (lroom st h4) hd ⟨hc1, hc2⟩⟩
  · show d2 + 1 ≤ R.frames; omega
  · show 8 + (M2.2.2.1 + 11) + 40 * d2 ≤ R.locals; omega
end CALL
end
section
/-! RULES: super.m(..), of the superclass or of the one above it -/
theorem sub_of {vm : Vm} {a b : ClassId} {k : Class} (h1 : vm.classes[a]? = some k) (h2 : a = b ∨ k.super = some b) : vm.isSubclass a b = true := by
  have hpos : 0 < vm.classes.size := Nat.lt_of_le_of_lt (Nat.zero_le _) (Array.getElem?_eq_some_iff.mp h1).1
  obtain ⟨n, hn⟩ : ∃ n, vm.classes.size = n + 1 := ⟨vm.classes.size - 1, by omega⟩
  unfold Vm.isSubclass
  rw [hn]
  rcases h2 with rfl | h2
  · simp [Vm.isSubclassAux]
  · simp [Vm.isSubclassAux, h1, h2]
section SUP
variable {M : MD} {d pc : Nat} {ls : List (Option MV)} {st : List MV} {h : MH} {sz kc ks : Nat} {Q : QT}
theorem run_SU {M2 : MD} {d2 mc ms n index b ci N : Nat} {C owner : String} {T : u_T} {ty : Nat → FieldType} {fs : List MV} {as : List MV} {hc : MH} {Qc : QT} (x : MethodName) (hC : Ct M2 d2 mc ms (vR b :: as) hc sz Qc) (ho : MOK M2 n) (hcl : Cls ci C T N ty) (hbo : h b = some (kO ci fs)) (hm2 : M2.1 = ⟨owner, x.name, x.desc⟩) (hno : x.name ≠ "<init>") (hw1 : Cond.methodLink M.1.cls index x ∈ lw_tbl) (hw4 : Cond.sameMethod x.cls owner x.name x.desc ∈ lw_tbl) (hw5 : Cond.superclass M.1.cls x.cls ∈ lw_tbl) (hw6 : x.cls = owner ∨ Cond.superclass x.cls owner ∈ lw_tbl) (hw2 : Cond.instanceMethod M2.1 ∈ lw_tbl) (hn : as.length = n) (hdd : d2 + 1 ≤ d) (h4 : st.length ≤ 4) (hd : decode M.2.1 pc = .ok (.invokespecial index, 3)) : RunC M d pc (as.reverse ++ vR b :: st) st h sz hc mc ms Qc := by
  intro p l e R s m args below meth c E F H locs cells slots lv hB hSF hFF hrm hR hRc hS hlv hok hc1 hc2
  obtain ⟨hx, hb, hml, hown⟩ := hB
  have hoka : ∀ v ∈ vR b :: as, okV v := fun v hv => by
    rcases List.mem_cons.mp hv with rfl | hv
    · trivial
    · exact hok v (List.mem_append_left _ (List.mem_reverse.mpr hv))
  have ho5 := ho.2.2.2.2
  refine ⟨((vR b :: as).map (cv E)).toArray, ?_⟩
  have hini : (Cond.initialized M2.1.cls).before args s = true := hSF.w ho.2.1 rfl args
  have hK : Back l R p e below s args M2.1 3 8 (PreOf R mc ms (cPre E (vR b :: as) hc sz)) (PostOf (cPost E hc sz Qc) mc ms (FR E hc sz)) := back_of (bytes := M2.2.1) (maxL := M2.2.2.1) (ret := M2.2.2.2) (hC l E) (cPre_blind E (vR b :: as) hc sz) rfl rfl (by show d2 + 1 ≤ R.frames; omega) (by show 8 + (M2.2.2.1 + 11) + 40 * d2 ≤ R.locals; omega) (code_good hSF ho) (List.mem_singleton.mpr rfl) (fun a' U hW => word_at hW (Or.inl rfl) hini)
  obtain ⟨mk, methM, hnamed, hmethM, hstM, habM⟩ := Cond.instanceMethod_spec (hSF.w hw2 rfl args)
  obtain ⟨methM', cM, hmethM', -, -, -, -, -, -, hsigM⟩ := Cond.code_spec hnamed (hSF.w ho.1 rfl args)
  cases hmethM.symm.trans hmethM'
  obtain ⟨ps, dk, kp, hps, hdk, hkp, hsuper, -, -, hnid⟩ := Cond.superclass_spec hown (hSF.w hw5 rfl args)
  have hnm2 : s.methodNamed? ⟨owner, x.name, x.desc⟩ = some mk := by rw [← hm2]; exact hnamed
  have hcown : s.vm.findClass owner = some mk.cls := findClass_of_methodNamed hnm2
  have hsub : s.vm.isSubclass ps mk.cls = true := by
    refine sub_of hkp ?_
    rcases hw6 with e6 | hw6
    · left
      rw [← e6] at hcown
      exact Option.some.inj (hps.symm.trans hcown)
    · right
      obtain ⟨ps2, dk2, kp2, hps2, hdk2, hkp2, hsuper2, -⟩ := Cond.superclass_spec hps (hSF.w hw6 rfl args)
      cases hkp.symm.trans hdk2
      rw [hsuper2]
      exact congrArg some (Option.some.inj (hps2.symm.trans hcown))
  obtain ⟨cellB, hcB, hoB, hclB⟩ := recv hSF hR hcl hbo
  obtain ⟨kB, hkB, -⟩ := (hSF.1.1 ci _ hcl.1).2.2
  have hkB2 : s.vm.classes[cellB.cls]? = some kB := by
    have e9 : E.1.1 ci = cellB.cls := Option.some.inj ((hSF.1.1 ci _ hcl.1).2.1.symm.trans hclB)
    rw [← e9]; exact hkB
  have hlen : (as.map (cv E)).length = methM.sig.parameters.length := by
    rw [List.length_map, hn]
    exact ho.len _ hsigM
  intro T9 hT X
  obtain ⟨vm₁, X₁, hstep₁⟩ := X.invokespecialUp hx hown (hSF.w hw1 rfl args) (hSF.w hw4 rfl args) hnm2 hmethM hstM habM hno hdk hnid hps hsuper hsub (a := eb E + b) (cell := cellB) (by rw [hT]; exact hcB)
    (fun z q => by rw [q] at hoB; cases hoB) hkB2 (g := F0 m pc lv ((as.reverse ++ vR b :: st).map (cv E))) rfl (argsL := as.map (cv E)) (rest := st.map (cv E)) hlen (by show (as.reverse ++ vR b :: st).map (cv E) = _; rw [List.map_append, List.map_reverse]; rfl) (by rw [hb]; exact hd)
  have hpre : PreOf R mc ms (cPre E (vR b :: as) hc sz) ⟨T9.setVm vm₁, locs, cells, slots⟩ (Value.ref (eb E + b) :: as.map (cv E)).toArray := ⟨hc1, hc2, pre_of (U := T9.setVm vm₁) hSF hFF hRc hS hoka hT X₁.warmed⟩
  obtain ⟨v, B, X', hpost, hsteps⟩ := hK m meth c ⟨T9.setVm vm₁, locs, cells, slots⟩ { F0 m pc lv ((as.reverse ++ vR b :: st).map (cv E)) with stack := st.map (cv E) } (.invokespecial index) mk (Value.ref (eb E + b) :: as.map (cv E)).toArray X₁ rfl (by rw [hml]; exact hlv) (by rw [hb]; exact hd) (lroom (E := E) (st0 := st) st h4) (X₁.named hnamed) hpre
  obtain ⟨U', l2, c2, s2⟩ := B
  obtain ⟨g', mk', t, L, e1, e2, hq, q1, hL, q2, q3⟩ := hpost
  dsimp only [Pt.U, Pt.locs, Pt.cells, Pt.slots] at X' e1 e2 q1 q2 q3 hsteps
  subst q1; subst q2; subst q3
  exact ⟨v, (T9.setVm vm₁).calling g' mk' _, t, U', L, hT, X', hL, e1, e2, hq, fun target ht => hstep₁ _ (by rw [doInvoke_state]; exact hsteps.trans ht)⟩
end SUP
end
section
/-! METHODS AND LINKS, printed by wip/whole/gen/tables.py -/
def LinkS (own : String) (index : Nat) (M2 : MD) (n : Nat) : Prop := MOK M2 n ∧ Cond.methodLink own index M2.1 ∈ lw_tbl ∧ Cond.static M2.1 ∈ lw_tbl
def LinkV (own : String) (index : Nat) (M2 : MD) (n ci N : Nat) (T : u_T) (ty : Nat → FieldType) : Prop := MOK M2 n ∧ Cls ci M2.1.cls T N ty ∧ Cond.methodLink own index M2.1 ∈ lw_tbl ∧ Cond.instanceMethod M2.1 ∈ lw_tbl ∧ Cond.selects M2.1.cls M2.1 M2.1 ∈ lw_tbl
def LinkI (own : String) (index : Nat) (M2 : MD) (n : Nat) : Prop := MOK M2 n ∧ M2.2.2.2 = none ∧ M2.1.name = "<init>" ∧ Cond.methodLink own index M2.1 ∈ lw_tbl ∧ Cond.instanceMethod M2.1 ∈ lw_tbl
def LinkU (own : String) (index : Nat) (x : MethodName) (owner C : String) (M2 : MD) (n ci N : Nat) (T : u_T) (ty : Nat → FieldType) : Prop := MOK M2 n ∧ Cls ci C T N ty ∧ ((owner ≠ "java/lang/invoke/MethodHandle" ∧ owner ≠ "java/lang/invoke/VarHandle") ∧ (parseMethodDescriptor x.desc).map (fun q => q.parameters.length) = some n) ∧ Cond.methodLink own index x ∈ lw_tbl ∧ Cond.sameMethod x.cls owner x.name x.desc ∈ lw_tbl ∧ (⟨owner, x.name, x.desc⟩ : MethodName) ∈ deL ∧ Cond.instanceMethod M2.1 ∈ lw_tbl ∧ Cond.selects C x M2.1 ∈ lw_tbl
def LinkSU (own : String) (index : Nat) (x : MethodName) (owner : String) (M2 : MD) (n : Nat) : Prop := MOK M2 n ∧ M2.1 = ⟨owner, x.name, x.desc⟩ ∧ x.name ≠ "<init>" ∧ Cond.methodLink own index x ∈ lw_tbl ∧ Cond.sameMethod x.cls owner x.name x.desc ∈ lw_tbl ∧ Cond.superclass own x.cls ∈ lw_tbl ∧ (x.cls = owner ∨ Cond.superclass x.cls owner ∈ lw_tbl) ∧ Cond.instanceMethod M2.1 ∈ lw_tbl
abbrev M_RR_init : MD := (⟨"RiverRoad", "<init>", "()V"⟩, prog_1_method_1_code, 1, (Option.none : Option FieldType))
theorem mo_RR_init : MOK M_RR_init 0 := ⟨(List.mem_of_getElem? (i := 56) (by decide +kernel)), (List.mem_of_getElem? (i := 35) (by decide +kernel)), ⟨by decide +kernel, by decide +kernel⟩, by decide +kernel, Nat.le_of_ble_eq_true rfl⟩
abbrev M_Tr_init : MD := (⟨"RiverRoad$Trace", "<init>", "()V"⟩, prog_12_method_1_code, 1, (Option.none : Option FieldType))
theorem mo_Tr_init : MOK M_Tr_init 0 := ⟨(List.mem_of_getElem? (i := 68) (by decide +kernel)), (List.mem_of_getElem? (i := 36) (by decide +kernel)), ⟨by decide +kernel, by decide +kernel⟩, by decide +kernel, Nat.le_of_ble_eq_true rfl⟩
abbrev M_RR_countEndings : MD := (⟨"RiverRoad", "countEndings", "()[I"⟩, prog_1_method_47_code, 4, (Option.some (FieldType.array FieldType.int)))
theorem mo_RR_countEndings : MOK M_RR_countEndings 0 := ⟨(List.mem_of_getElem? (i := 82) (by decide +kernel)), (List.mem_of_getElem? (i := 35) (by decide +kernel)), ⟨by decide +kernel, by decide +kernel⟩, by decide +kernel, Nat.le_of_ble_eq_true rfl⟩
abbrev M_RR_endingsAt : MD := (⟨"RiverRoad", "endingsAt", "(II)I"⟩, prog_1_method_48_code, 2, (Option.some FieldType.int))
theorem mo_RR_endingsAt : MOK M_RR_endingsAt 2 := ⟨(List.mem_of_getElem? (i := 85) (by decide +kernel)), (List.mem_of_getElem? (i := 35) (by decide +kernel)), ⟨by decide +kernel, by decide +kernel⟩, by decide +kernel, Nat.le_of_ble_eq_true rfl⟩
abbrev M_RR_sheet : MD := (⟨"RiverRoad", "sheet", "(III)I"⟩, prog_1_method_2_code, 4, (Option.some FieldType.int))
theorem mo_RR_sheet : MOK M_RR_sheet 3 := ⟨(List.mem_of_getElem? (i := 111) (by decide +kernel)), (List.mem_of_getElem? (i := 35) (by decide +kernel)), ⟨by decide +kernel, by decide +kernel⟩, by decide +kernel, Nat.le_of_ble_eq_true rfl⟩
abbrev M_RR_isSheet : MD := (⟨"RiverRoad", "isSheet", "(I)Z"⟩, prog_1_method_36_code, 1, (Option.some FieldType.boolean))
theorem mo_RR_isSheet : MOK M_RR_isSheet 1 := ⟨(List.mem_of_getElem? (i := 114) (by decide +kernel)), (List.mem_of_getElem? (i := 35) (by decide +kernel)), ⟨by decide +kernel, by decide +kernel⟩, by decide +kernel, Nat.le_of_ble_eq_true rfl⟩
abbrev M_RR_found : MD := (⟨"RiverRoad", "found", "(I)I"⟩, prog_1_method_32_code, 2, (Option.some FieldType.int))
theorem mo_RR_found : MOK M_RR_found 1 := ⟨(List.mem_of_getElem? (i := 119) (by decide +kernel)), (List.mem_of_getElem? (i := 35) (by decide +kernel)), ⟨by decide +kernel, by decide +kernel⟩, by decide +kernel, Nat.le_of_ble_eq_true rfl⟩
abbrev M_Sh_init : MD := (⟨"RiverRoad$Sheet", "<init>", "(I[I)V"⟩, prog_9_method_1_code, 3, (Option.none : Option FieldType))
theorem mo_Sh_init : MOK M_Sh_init 2 := ⟨(List.mem_of_getElem? (i := 124) (by decide +kernel)), (List.mem_of_getElem? (i := 38) (by decide +kernel)), ⟨by decide +kernel, by decide +kernel⟩, by decide +kernel, Nat.le_of_ble_eq_true rfl⟩
abbrev M_RR_settled : MD := (⟨"RiverRoad", "settled", "(I)I"⟩, prog_1_method_34_code, 2, (Option.some FieldType.int))
theorem mo_RR_settled : MOK M_RR_settled 1 := ⟨(List.mem_of_getElem? (i := 138) (by decide +kernel)), (List.mem_of_getElem? (i := 35) (by decide +kernel)), ⟨by decide +kernel, by decide +kernel⟩, by decide +kernel, Nat.le_of_ble_eq_true rfl⟩
abbrev M_RR_set : MD := (⟨"RiverRoad", "set", "(III)I"⟩, prog_1_method_3_code, 5, (Option.some FieldType.int))
theorem mo_RR_set : MOK M_RR_set 3 := ⟨(List.mem_of_getElem? (i := 142) (by decide +kernel)), (List.mem_of_getElem? (i := 35) (by decide +kernel)), ⟨by decide +kernel, by decide +kernel⟩, by decide +kernel, Nat.le_of_ble_eq_true rfl⟩
abbrev M_Sh_holds : MD := (⟨"RiverRoad$Sheet", "holds", "(II)Z"⟩, prog_9_method_2_code, 3, (Option.some FieldType.boolean))
theorem mo_Sh_holds : MOK M_Sh_holds 2 := ⟨(List.mem_of_getElem? (i := 146) (by decide +kernel)), (List.mem_of_getElem? (i := 38) (by decide +kernel)), ⟨by decide +kernel, by decide +kernel⟩, by decide +kernel, Nat.le_of_ble_eq_true rfl⟩
abbrev M_Sh_cut : MD := (⟨"RiverRoad$Sheet", "cut", "(I)I"⟩, prog_9_method_3_code, 2, (Option.some FieldType.int))
theorem mo_Sh_cut : MOK M_Sh_cut 1 := ⟨(List.mem_of_getElem? (i := 150) (by decide +kernel)), (List.mem_of_getElem? (i := 38) (by decide +kernel)), ⟨by decide +kernel, by decide +kernel⟩, by decide +kernel, Nat.le_of_ble_eq_true rfl⟩
abbrev M_RR_copy : MD := (⟨"RiverRoad", "copy", "(IIIII)I"⟩, prog_1_method_4_code, 8, (Option.some FieldType.int))
theorem mo_RR_copy : MOK M_RR_copy 5 := ⟨(List.mem_of_getElem? (i := 154) (by decide +kernel)), (List.mem_of_getElem? (i := 35) (by decide +kernel)), ⟨by decide +kernel, by decide +kernel⟩, by decide +kernel, Nat.le_of_ble_eq_true rfl⟩
abbrev M_RR_drop : MD := (⟨"RiverRoad", "drop", "(I)I"⟩, prog_1_method_5_code, 3, (Option.some FieldType.int))
theorem mo_RR_drop : MOK M_RR_drop 1 := ⟨(List.mem_of_getElem? (i := 161) (by decide +kernel)), (List.mem_of_getElem? (i := 35) (by decide +kernel)), ⟨by decide +kernel, by decide +kernel⟩, by decide +kernel, Nat.le_of_ble_eq_true rfl⟩
abbrev M_RR_row : MD := (⟨"RiverRoad", "row", "(IIII)I"⟩, prog_1_method_6_code, 10, (Option.some FieldType.int))
theorem mo_RR_row : MOK M_RR_row 4 := ⟨(List.mem_of_getElem? (i := 165) (by decide +kernel)), (List.mem_of_getElem? (i := 35) (by decide +kernel)), ⟨by decide +kernel, by decide +kernel⟩, by decide +kernel, Nat.le_of_ble_eq_true rfl⟩
abbrev M_RR_isPlace : MD := (⟨"RiverRoad", "isPlace", "(I)Z"⟩, prog_1_method_37_code, 1, (Option.some FieldType.boolean))
theorem mo_RR_isPlace : MOK M_RR_isPlace 1 := ⟨(List.mem_of_getElem? (i := 168) (by decide +kernel)), (List.mem_of_getElem? (i := 35) (by decide +kernel)), ⟨by decide +kernel, by decide +kernel⟩, by decide +kernel, Nat.le_of_ble_eq_true rfl⟩
abbrev M_RR_rowOf : MD := (⟨"RiverRoad", "rowOf", "(IJ)LRiverRoad$Row;"⟩, prog_1_method_42_code, 3, (Option.some (FieldType.object "RiverRoad$Row")))
theorem mo_RR_rowOf : MOK M_RR_rowOf 2 := ⟨(List.mem_of_getElem? (i := 171) (by decide +kernel)), (List.mem_of_getElem? (i := 35) (by decide +kernel)), ⟨by decide +kernel, by decide +kernel⟩, by decide +kernel, Nat.le_of_ble_eq_true rfl⟩
abbrev M_RR_areArches : MD := (⟨"RiverRoad", "areArches", "(IJ)Z"⟩, prog_1_method_43_code, 5, (Option.some FieldType.boolean))
theorem mo_RR_areArches : MOK M_RR_areArches 2 := ⟨(List.mem_of_getElem? (i := 174) (by decide +kernel)), (List.mem_of_getElem? (i := 35) (by decide +kernel)), ⟨by decide +kernel, by decide +kernel⟩, by decide +kernel, Nat.le_of_ble_eq_true rfl⟩
abbrev M_RR_isPlus : MD := (⟨"RiverRoad", "isPlus", "(JI)Z"⟩, prog_1_method_39_code, 3, (Option.some FieldType.boolean))
theorem mo_RR_isPlus : MOK M_RR_isPlus 2 := ⟨(List.mem_of_getElem? (i := 177) (by decide +kernel)), (List.mem_of_getElem? (i := 35) (by decide +kernel)), ⟨by decide +kernel, by decide +kernel⟩, by decide +kernel, Nat.le_of_ble_eq_true rfl⟩
abbrev M_RR_archesOf : MD := (⟨"RiverRoad", "archesOf", "(IJ)LRiverRoad$Arches;"⟩, prog_1_method_44_code, 4, (Option.some (FieldType.object "RiverRoad$Arches")))
theorem mo_RR_archesOf : MOK M_RR_archesOf 2 := ⟨(List.mem_of_getElem? (i := 180) (by decide +kernel)), (List.mem_of_getElem? (i := 35) (by decide +kernel)), ⟨by decide +kernel, by decide +kernel⟩, by decide +kernel, Nat.le_of_ble_eq_true rfl⟩
abbrev M_RR_partnersOf : MD := (⟨"RiverRoad", "partnersOf", "(IJ)[I"⟩, prog_1_method_45_code, 7, (Option.some (FieldType.array FieldType.int)))
theorem mo_RR_partnersOf : MOK M_RR_partnersOf 2 := ⟨(List.mem_of_getElem? (i := 183) (by decide +kernel)), (List.mem_of_getElem? (i := 35) (by decide +kernel)), ⟨by decide +kernel, by decide +kernel⟩, by decide +kernel, Nat.le_of_ble_eq_true rfl⟩
abbrev M_Pe_init : MD := (⟨"RiverRoad$Peaks", "<init>", "(IJ[I)V"⟩, prog_7_method_1_code, 5, (Option.none : Option FieldType))
theorem mo_Pe_init : MOK M_Pe_init 3 := ⟨(List.mem_of_getElem? (i := 189) (by decide +kernel)), (List.mem_of_getElem? (i := 43) (by decide +kernel)), ⟨by decide +kernel, by decide +kernel⟩, by decide +kernel, Nat.le_of_ble_eq_true rfl⟩
abbrev M_Ar_init : MD := (⟨"RiverRoad$Arches", "<init>", "(IJ[I)V"⟩, prog_2_method_1_code, 5, (Option.none : Option FieldType))
theorem mo_Ar_init : MOK M_Ar_init 3 := ⟨(List.mem_of_getElem? (i := 192) (by decide +kernel)), (List.mem_of_getElem? (i := 42) (by decide +kernel)), ⟨by decide +kernel, by decide +kernel⟩, by decide +kernel, Nat.le_of_ble_eq_true rfl⟩
abbrev M_Row_init : MD := (⟨"RiverRoad$Row", "<init>", "(IJ)V"⟩, prog_8_method_1_code, 4, (Option.none : Option FieldType))
theorem mo_Row_init : MOK M_Row_init 2 := ⟨(List.mem_of_getElem? (i := 195) (by decide +kernel)), (List.mem_of_getElem? (i := 41) (by decide +kernel)), ⟨by decide +kernel, by decide +kernel⟩, by decide +kernel, Nat.le_of_ble_eq_true rfl⟩
abbrev M_Th_init : MD := (⟨"RiverRoad$Thing", "<init>", "(I)V"⟩, prog_11_method_1_code, 2, (Option.none : Option FieldType))
theorem mo_Th_init : MOK M_Th_init 1 := ⟨(List.mem_of_getElem? (i := 198) (by decide +kernel)), (List.mem_of_getElem? (i := 40) (by decide +kernel)), ⟨by decide +kernel, by decide +kernel⟩, by decide +kernel, Nat.le_of_ble_eq_true rfl⟩
abbrev M_Ne_init : MD := (⟨"RiverRoad$Nest", "<init>", "(IJ[I)V"⟩, prog_6_method_1_code, 5, (Option.none : Option FieldType))
theorem mo_Ne_init : MOK M_Ne_init 3 := ⟨(List.mem_of_getElem? (i := 229) (by decide +kernel)), (List.mem_of_getElem? (i := 44) (by decide +kernel)), ⟨by decide +kernel, by decide +kernel⟩, by decide +kernel, Nat.le_of_ble_eq_true rfl⟩
abbrev M_RR_shelve : MD := (⟨"RiverRoad", "shelve", "(ILRiverRoad$Thing;)I"⟩, prog_1_method_35_code, 3, (Option.some FieldType.int))
theorem mo_RR_shelve : MOK M_RR_shelve 2 := ⟨(List.mem_of_getElem? (i := 251) (by decide +kernel)), (List.mem_of_getElem? (i := 35) (by decide +kernel)), ⟨by decide +kernel, by decide +kernel⟩, by decide +kernel, Nat.le_of_ble_eq_true rfl⟩
abbrev M_Ar_told : MD := (⟨"RiverRoad$Arches", "told", "()I"⟩, prog_2_method_2_code, 1, (Option.some FieldType.int))
theorem mo_Ar_told : MOK M_Ar_told 0 := ⟨(List.mem_of_getElem? (i := 257) (by decide +kernel)), (List.mem_of_getElem? (i := 42) (by decide +kernel)), ⟨by decide +kernel, by decide +kernel⟩, by decide +kernel, Nat.le_of_ble_eq_true rfl⟩
abbrev M_Fo_told : MD := (⟨"RiverRoad$Fold", "told", "()I"⟩, prog_3_method_2_code, 1, (Option.some FieldType.int))
theorem mo_Fo_told : MOK M_Fo_told 0 := ⟨(List.mem_of_getElem? (i := 260) (by decide +kernel)), (List.mem_of_getElem? (i := 50) (by decide +kernel)), ⟨by decide +kernel, by decide +kernel⟩, by decide +kernel, Nat.le_of_ble_eq_true rfl⟩
abbrev M_La_told : MD := (⟨"RiverRoad$Land", "told", "()I"⟩, prog_4_method_3_code, 1, (Option.some FieldType.int))
theorem mo_La_told : MOK M_La_told 0 := ⟨(List.mem_of_getElem? (i := 263) (by decide +kernel)), (List.mem_of_getElem? (i := 46) (by decide +kernel)), ⟨by decide +kernel, by decide +kernel⟩, by decide +kernel, Nat.le_of_ble_eq_true rfl⟩
abbrev M_Lo_told : MD := (⟨"RiverRoad$Loop", "told", "()I"⟩, prog_5_method_2_code, 1, (Option.some FieldType.int))
theorem mo_Lo_told : MOK M_Lo_told 0 := ⟨(List.mem_of_getElem? (i := 266) (by decide +kernel)), (List.mem_of_getElem? (i := 47) (by decide +kernel)), ⟨by decide +kernel, by decide +kernel⟩, by decide +kernel, Nat.le_of_ble_eq_true rfl⟩
abbrev M_Ne_told : MD := (⟨"RiverRoad$Nest", "told", "()I"⟩, prog_6_method_2_code, 1, (Option.some FieldType.int))
theorem mo_Ne_told : MOK M_Ne_told 0 := ⟨(List.mem_of_getElem? (i := 269) (by decide +kernel)), (List.mem_of_getElem? (i := 44) (by decide +kernel)), ⟨by decide +kernel, by decide +kernel⟩, by decide +kernel, Nat.le_of_ble_eq_true rfl⟩
abbrev M_Pe_told : MD := (⟨"RiverRoad$Peaks", "told", "()I"⟩, prog_7_method_2_code, 1, (Option.some FieldType.int))
theorem mo_Pe_told : MOK M_Pe_told 0 := ⟨(List.mem_of_getElem? (i := 272) (by decide +kernel)), (List.mem_of_getElem? (i := 43) (by decide +kernel)), ⟨by decide +kernel, by decide +kernel⟩, by decide +kernel, Nat.le_of_ble_eq_true rfl⟩
abbrev M_Row_told : MD := (⟨"RiverRoad$Row", "told", "()I"⟩, prog_8_method_2_code, 1, (Option.some FieldType.int))
theorem mo_Row_told : MOK M_Row_told 0 := ⟨(List.mem_of_getElem? (i := 275) (by decide +kernel)), (List.mem_of_getElem? (i := 41) (by decide +kernel)), ⟨by decide +kernel, by decide +kernel⟩, by decide +kernel, Nat.le_of_ble_eq_true rfl⟩
abbrev M_St_told : MD := (⟨"RiverRoad$Strip", "told", "()I"⟩, prog_10_method_2_code, 1, (Option.some FieldType.int))
theorem mo_St_told : MOK M_St_told 0 := ⟨(List.mem_of_getElem? (i := 278) (by decide +kernel)), (List.mem_of_getElem? (i := 49) (by decide +kernel)), ⟨by decide +kernel, by decide +kernel⟩, by decide +kernel, Nat.le_of_ble_eq_true rfl⟩
abbrev M_RR_land : MD := (⟨"RiverRoad", "land", "(III)I"⟩, prog_1_method_7_code, 7, (Option.some FieldType.int))
theorem mo_RR_land : MOK M_RR_land 3 := ⟨(List.mem_of_getElem? (i := 282) (by decide +kernel)), (List.mem_of_getElem? (i := 35) (by decide +kernel)), ⟨by decide +kernel, by decide +kernel⟩, by decide +kernel, Nat.le_of_ble_eq_true rfl⟩
abbrev M_RR_notThat : MD := (⟨"RiverRoad", "notThat", "(I)I"⟩, prog_1_method_33_code, 2, (Option.some FieldType.int))
theorem mo_RR_notThat : MOK M_RR_notThat 1 := ⟨(List.mem_of_getElem? (i := 286) (by decide +kernel)), (List.mem_of_getElem? (i := 35) (by decide +kernel)), ⟨by decide +kernel, by decide +kernel⟩, by decide +kernel, Nat.le_of_ble_eq_true rfl⟩
abbrev M_RR_landOf : MD := (⟨"RiverRoad", "landOf", "(LRiverRoad$Arches;LRiverRoad$Arches;)LRiverRoad$Land;"⟩, prog_1_method_52_code, 4, (Option.some (FieldType.object "RiverRoad$Land")))
theorem mo_RR_landOf : MOK M_RR_landOf 2 := ⟨(List.mem_of_getElem? (i := 289) (by decide +kernel)), (List.mem_of_getElem? (i := 35) (by decide +kernel)), ⟨by decide +kernel, by decide +kernel⟩, by decide +kernel, Nat.le_of_ble_eq_true rfl⟩
abbrev M_RR_numberLoops : MD := (⟨"RiverRoad", "numberLoops", "([I[I[I)I"⟩, prog_1_method_53_code, 7, (Option.some FieldType.int))
theorem mo_RR_numberLoops : MOK M_RR_numberLoops 3 := ⟨(List.mem_of_getElem? (i := 292) (by decide +kernel)), (List.mem_of_getElem? (i := 35) (by decide +kernel)), ⟨by decide +kernel, by decide +kernel⟩, by decide +kernel, Nat.le_of_ble_eq_true rfl⟩
abbrev M_JA_fill : MD := (⟨"java/util/Arrays", "fill", "([II)V"⟩, prog_19_method_103_code, 4, (Option.none : Option FieldType))
theorem mo_JA_fill : MOK M_JA_fill 2 := ⟨(List.mem_of_getElem? (i := 296) (by decide +kernel)), (List.mem_of_getElem? (i := 45) (by decide +kernel)), ⟨by decide +kernel, by decide +kernel⟩, by decide +kernel, Nat.le_of_ble_eq_true rfl⟩
abbrev M_Lo_init : MD := (⟨"RiverRoad$Loop", "<init>", "(LRiverRoad$Arches;LRiverRoad$Arches;[I)V"⟩, prog_5_method_1_code, 4, (Option.none : Option FieldType))
theorem mo_Lo_init : MOK M_Lo_init 3 := ⟨(List.mem_of_getElem? (i := 301) (by decide +kernel)), (List.mem_of_getElem? (i := 47) (by decide +kernel)), ⟨by decide +kernel, by decide +kernel⟩, by decide +kernel, Nat.le_of_ble_eq_true rfl⟩
abbrev M_La_init : MD := (⟨"RiverRoad$Land", "<init>", "(LRiverRoad$Arches;LRiverRoad$Arches;[II)V"⟩, prog_4_method_1_code, 5, (Option.none : Option FieldType))
theorem mo_La_init : MOK M_La_init 4 := ⟨(List.mem_of_getElem? (i := 304) (by decide +kernel)), (List.mem_of_getElem? (i := 46) (by decide +kernel)), ⟨by decide +kernel, by decide +kernel⟩, by decide +kernel, Nat.le_of_ble_eq_true rfl⟩
abbrev M_RR_strip : MD := (⟨"RiverRoad", "strip", "(IIII)I"⟩, prog_1_method_8_code, 9, (Option.some FieldType.int))
theorem mo_RR_strip : MOK M_RR_strip 4 := ⟨(List.mem_of_getElem? (i := 336) (by decide +kernel)), (List.mem_of_getElem? (i := 35) (by decide +kernel)), ⟨by decide +kernel, by decide +kernel⟩, by decide +kernel, Nat.le_of_ble_eq_true rfl⟩
abbrev M_JA_copyOfRange : MD := (⟨"java/util/Arrays", "copyOfRange", "([III)[I"⟩, prog_19_method_136_code, 3, (Option.some (FieldType.array FieldType.int)))
theorem mo_JA_copyOfRange : MOK M_JA_copyOfRange 3 := ⟨(List.mem_of_getElem? (i := 339) (by decide +kernel)), (List.mem_of_getElem? (i := 45) (by decide +kernel)), ⟨by decide +kernel, by decide +kernel⟩, by decide +kernel, Nat.le_of_ble_eq_true rfl⟩
abbrev M_JA_copyOfRangeInt : MD := (⟨"java/util/Arrays", "copyOfRangeInt", "([III)[I"⟩, prog_19_method_137_code, 5, (Option.some (FieldType.array FieldType.int)))
theorem mo_JA_copyOfRangeInt : MOK M_JA_copyOfRangeInt 3 := ⟨(List.mem_of_getElem? (i := 342) (by decide +kernel)), (List.mem_of_getElem? (i := 45) (by decide +kernel)), ⟨by decide +kernel, by decide +kernel⟩, by decide +kernel, Nat.le_of_ble_eq_true rfl⟩
abbrev M_JA_checkLength : MD := (⟨"java/util/Arrays", "checkLength", "(II)V"⟩, prog_19_method_131_code, 2, (Option.none : Option FieldType))
theorem mo_JA_checkLength : MOK M_JA_checkLength 2 := ⟨(List.mem_of_getElem? (i := 345) (by decide +kernel)), (List.mem_of_getElem? (i := 45) (by decide +kernel)), ⟨by decide +kernel, by decide +kernel⟩, by decide +kernel, Nat.le_of_ble_eq_true rfl⟩
abbrev M_JM_min : MD := (⟨"java/lang/Math", "min", "(II)I"⟩, prog_17_method_69_code, 2, (Option.some FieldType.int))
theorem mo_JM_min : MOK M_JM_min 2 := ⟨(List.mem_of_getElem? (i := 348) (by decide +kernel)), (List.mem_of_getElem? (i := 48) (by decide +kernel)), ⟨by decide +kernel, by decide +kernel⟩, by decide +kernel, Nat.le_of_ble_eq_true rfl⟩
abbrev M_RR_stripOf : MD := (⟨"RiverRoad", "stripOf", "([I)LRiverRoad$Strip;"⟩, prog_1_method_55_code, 4, (Option.some (FieldType.object "RiverRoad$Strip")))
theorem mo_RR_stripOf : MOK M_RR_stripOf 1 := ⟨(List.mem_of_getElem? (i := 359) (by decide +kernel)), (List.mem_of_getElem? (i := 35) (by decide +kernel)), ⟨by decide +kernel, by decide +kernel⟩, by decide +kernel, Nat.le_of_ble_eq_true rfl⟩
abbrev M_RR_firstClashWith : MD := (⟨"RiverRoad", "firstClashWith", "(I[I)I"⟩, prog_1_method_56_code, 5, (Option.some FieldType.int))
theorem mo_RR_firstClashWith : MOK M_RR_firstClashWith 2 := ⟨(List.mem_of_getElem? (i := 362) (by decide +kernel)), (List.mem_of_getElem? (i := 35) (by decide +kernel)), ⟨by decide +kernel, by decide +kernel⟩, by decide +kernel, Nat.le_of_ble_eq_true rfl⟩
abbrev M_JM_max : MD := (⟨"java/lang/Math", "max", "(II)I"⟩, prog_17_method_65_code, 2, (Option.some FieldType.int))
theorem mo_JM_max : MOK M_JM_max 2 := ⟨(List.mem_of_getElem? (i := 366) (by decide +kernel)), (List.mem_of_getElem? (i := 48) (by decide +kernel)), ⟨by decide +kernel, by decide +kernel⟩, by decide +kernel, Nat.le_of_ble_eq_true rfl⟩
abbrev M_RR_isBetween : MD := (⟨"RiverRoad", "isBetween", "(III)Z"⟩, prog_1_method_57_code, 3, (Option.some FieldType.boolean))
theorem mo_RR_isBetween : MOK M_RR_isBetween 3 := ⟨(List.mem_of_getElem? (i := 369) (by decide +kernel)), (List.mem_of_getElem? (i := 35) (by decide +kernel)), ⟨by decide +kernel, by decide +kernel⟩, by decide +kernel, Nat.le_of_ble_eq_true rfl⟩
abbrev M_St_init : MD := (⟨"RiverRoad$Strip", "<init>", "([I[III)V"⟩, prog_10_method_1_code, 5, (Option.none : Option FieldType))
theorem mo_St_init : MOK M_St_init 4 := ⟨(List.mem_of_getElem? (i := 374) (by decide +kernel)), (List.mem_of_getElem? (i := 49) (by decide +kernel)), ⟨by decide +kernel, by decide +kernel⟩, by decide +kernel, Nat.le_of_ble_eq_true rfl⟩
abbrev M_Fo_init : MD := (⟨"RiverRoad$Fold", "<init>", "([I[I)V"⟩, prog_3_method_1_code, 3, (Option.none : Option FieldType))
theorem mo_Fo_init : MOK M_Fo_init 2 := ⟨(List.mem_of_getElem? (i := 397) (by decide +kernel)), (List.mem_of_getElem? (i := 50) (by decide +kernel)), ⟨by decide +kernel, by decide +kernel⟩, by decide +kernel, Nat.le_of_ble_eq_true rfl⟩
abbrev M_RR_nth : MD := (⟨"RiverRoad", "nth", "(III)I"⟩, prog_1_method_9_code, 4, (Option.some FieldType.int))
theorem mo_RR_nth : MOK M_RR_nth 3 := ⟨(List.mem_of_getElem? (i := 409) (by decide +kernel)), (List.mem_of_getElem? (i := 35) (by decide +kernel)), ⟨by decide +kernel, by decide +kernel⟩, by decide +kernel, Nat.le_of_ble_eq_true rfl⟩
abbrev M_RR_endingsOf : MD := (⟨"RiverRoad", "endingsOf", "(II)I"⟩, prog_1_method_49_code, 3, (Option.some FieldType.int))
theorem mo_RR_endingsOf : MOK M_RR_endingsOf 2 := ⟨(List.mem_of_getElem? (i := 413) (by decide +kernel)), (List.mem_of_getElem? (i := 35) (by decide +kernel)), ⟨by decide +kernel, by decide +kernel⟩, by decide +kernel, Nat.le_of_ble_eq_true rfl⟩
abbrev M_RR_plusOfRank : MD := (⟨"RiverRoad", "plusOfRank", "(II)J"⟩, prog_1_method_50_code, 10, (Option.some FieldType.long))
theorem mo_RR_plusOfRank : MOK M_RR_plusOfRank 2 := ⟨(List.mem_of_getElem? (i := 417) (by decide +kernel)), (List.mem_of_getElem? (i := 35) (by decide +kernel)), ⟨by decide +kernel, by decide +kernel⟩, by decide +kernel, Nat.le_of_ble_eq_true rfl⟩
abbrev M_RR_turn : MD := (⟨"RiverRoad", "turn", "(II)I"⟩, prog_1_method_10_code, 6, (Option.some FieldType.int))
theorem mo_RR_turn : MOK M_RR_turn 2 := ⟨(List.mem_of_getElem? (i := 421) (by decide +kernel)), (List.mem_of_getElem? (i := 35) (by decide +kernel)), ⟨by decide +kernel, by decide +kernel⟩, by decide +kernel, Nat.le_of_ble_eq_true rfl⟩
abbrev M_RR_mirror : MD := (⟨"RiverRoad", "mirror", "(II)I"⟩, prog_1_method_11_code, 5, (Option.some FieldType.int))
theorem mo_RR_mirror : MOK M_RR_mirror 2 := ⟨(List.mem_of_getElem? (i := 425) (by decide +kernel)), (List.mem_of_getElem? (i := 35) (by decide +kernel)), ⟨by decide +kernel, by decide +kernel⟩, by decide +kernel, Nat.le_of_ble_eq_true rfl⟩
abbrev M_RR_mirrored : MD := (⟨"RiverRoad", "mirrored", "(LRiverRoad$Arches;)LRiverRoad$Arches;"⟩, prog_1_method_46_code, 5, (Option.some (FieldType.object "RiverRoad$Arches")))
theorem mo_RR_mirrored : MOK M_RR_mirrored 1 := ⟨(List.mem_of_getElem? (i := 428) (by decide +kernel)), (List.mem_of_getElem? (i := 35) (by decide +kernel)), ⟨by decide +kernel, by decide +kernel⟩, by decide +kernel, Nat.le_of_ble_eq_true rfl⟩
abbrev M_RR_clear : MD := (⟨"RiverRoad", "clear", "(I)I"⟩, prog_1_method_12_code, 3, (Option.some FieldType.int))
theorem mo_RR_clear : MOK M_RR_clear 1 := ⟨(List.mem_of_getElem? (i := 432) (by decide +kernel)), (List.mem_of_getElem? (i := 35) (by decide +kernel)), ⟨by decide +kernel, by decide +kernel⟩, by decide +kernel, Nat.le_of_ble_eq_true rfl⟩
abbrev M_RR_kind : MD := (⟨"RiverRoad", "kind", "(I)I"⟩, prog_1_method_13_code, 3, (Option.some FieldType.int))
theorem mo_RR_kind : MOK M_RR_kind 1 := ⟨(List.mem_of_getElem? (i := 436) (by decide +kernel)), (List.mem_of_getElem? (i := 35) (by decide +kernel)), ⟨by decide +kernel, by decide +kernel⟩, by decide +kernel, Nat.le_of_ble_eq_true rfl⟩
abbrev M_RR_is : MD := (⟨"RiverRoad", "is", "(II)I"⟩, prog_1_method_14_code, 3, (Option.some FieldType.int))
theorem mo_RR_is : MOK M_RR_is 2 := ⟨(List.mem_of_getElem? (i := 440) (by decide +kernel)), (List.mem_of_getElem? (i := 35) (by decide +kernel)), ⟨by decide +kernel, by decide +kernel⟩, by decide +kernel, Nat.le_of_ble_eq_true rfl⟩
abbrev M_RR_isOfKind : MD := (⟨"RiverRoad", "isOfKind", "(LRiverRoad$Thing;I)Z"⟩, prog_1_method_40_code, 2, (Option.some FieldType.boolean))
theorem mo_RR_isOfKind : MOK M_RR_isOfKind 2 := ⟨(List.mem_of_getElem? (i := 443) (by decide +kernel)), (List.mem_of_getElem? (i := 35) (by decide +kernel)), ⟨by decide +kernel, by decide +kernel⟩, by decide +kernel, Nat.le_of_ble_eq_true rfl⟩
abbrev M_RR_as : MD := (⟨"RiverRoad", "as", "(II)I"⟩, prog_1_method_15_code, 4, (Option.some FieldType.int))
theorem mo_RR_as : MOK M_RR_as 2 := ⟨(List.mem_of_getElem? (i := 447) (by decide +kernel)), (List.mem_of_getElem? (i := 35) (by decide +kernel)), ⟨by decide +kernel, by decide +kernel⟩, by decide +kernel, Nat.le_of_ble_eq_true rfl⟩
abbrev M_RR_ask : MD := (⟨"RiverRoad", "ask", "(II)I"⟩, prog_1_method_16_code, 4, (Option.some FieldType.int))
theorem mo_RR_ask : MOK M_RR_ask 2 := ⟨(List.mem_of_getElem? (i := 451) (by decide +kernel)), (List.mem_of_getElem? (i := 35) (by decide +kernel)), ⟨by decide +kernel, by decide +kernel⟩, by decide +kernel, Nat.le_of_ble_eq_true rfl⟩
abbrev M_La_askSize : MD := (⟨"RiverRoad$Land", "askSize", "(LRiverRoad$Trace;)I"⟩, prog_4_method_4_code, 2, (Option.some FieldType.int))
theorem mo_La_askSize : MOK M_La_askSize 1 := ⟨(List.mem_of_getElem? (i := 459) (by decide +kernel)), (List.mem_of_getElem? (i := 46) (by decide +kernel)), ⟨by decide +kernel, by decide +kernel⟩, by decide +kernel, Nat.le_of_ble_eq_true rfl⟩
abbrev M_Tr_leave : MD := (⟨"RiverRoad$Trace", "leave", "(I)V"⟩, prog_12_method_2_code, 2, (Option.none : Option FieldType))
theorem mo_Tr_leave : MOK M_Tr_leave 1 := ⟨(List.mem_of_getElem? (i := 463) (by decide +kernel)), (List.mem_of_getElem? (i := 36) (by decide +kernel)), ⟨by decide +kernel, by decide +kernel⟩, by decide +kernel, Nat.le_of_ble_eq_true rfl⟩
abbrev M_Th_askSize : MD := (⟨"RiverRoad$Thing", "askSize", "(LRiverRoad$Trace;)I"⟩, prog_11_method_3_code, 2, (Option.some FieldType.int))
theorem mo_Th_askSize : MOK M_Th_askSize 1 := ⟨(List.mem_of_getElem? (i := 470) (by decide +kernel)), (List.mem_of_getElem? (i := 40) (by decide +kernel)), ⟨by decide +kernel, by decide +kernel⟩, by decide +kernel, Nat.le_of_ble_eq_true rfl⟩
abbrev M_Ar_askWorth : MD := (⟨"RiverRoad$Arches", "askWorth", "(LRiverRoad$Trace;)I"⟩, prog_2_method_3_code, 4, (Option.some FieldType.int))
theorem mo_Ar_askWorth : MOK M_Ar_askWorth 1 := ⟨(List.mem_of_getElem? (i := 477) (by decide +kernel)), (List.mem_of_getElem? (i := 42) (by decide +kernel)), ⟨by decide +kernel, by decide +kernel⟩, by decide +kernel, Nat.le_of_ble_eq_true rfl⟩
abbrev M_Fo_askWorth : MD := (⟨"RiverRoad$Fold", "askWorth", "(LRiverRoad$Trace;)I"⟩, prog_3_method_3_code, 2, (Option.some FieldType.int))
theorem mo_Fo_askWorth : MOK M_Fo_askWorth 1 := ⟨(List.mem_of_getElem? (i := 481) (by decide +kernel)), (List.mem_of_getElem? (i := 50) (by decide +kernel)), ⟨by decide +kernel, by decide +kernel⟩, by decide +kernel, Nat.le_of_ble_eq_true rfl⟩
abbrev M_St_askWorth : MD := (⟨"RiverRoad$Strip", "askWorth", "(LRiverRoad$Trace;)I"⟩, prog_10_method_3_code, 2, (Option.some FieldType.int))
theorem mo_St_askWorth : MOK M_St_askWorth 1 := ⟨(List.mem_of_getElem? (i := 485) (by decide +kernel)), (List.mem_of_getElem? (i := 49) (by decide +kernel)), ⟨by decide +kernel, by decide +kernel⟩, by decide +kernel, Nat.le_of_ble_eq_true rfl⟩
abbrev M_La_askWorth : MD := (⟨"RiverRoad$Land", "askWorth", "(LRiverRoad$Trace;)I"⟩, prog_4_method_5_code, 2, (Option.some FieldType.int))
theorem mo_La_askWorth : MOK M_La_askWorth 1 := ⟨(List.mem_of_getElem? (i := 489) (by decide +kernel)), (List.mem_of_getElem? (i := 46) (by decide +kernel)), ⟨by decide +kernel, by decide +kernel⟩, by decide +kernel, Nat.le_of_ble_eq_true rfl⟩
abbrev M_Lo_askWorth : MD := (⟨"RiverRoad$Loop", "askWorth", "(LRiverRoad$Trace;)I"⟩, prog_5_method_3_code, 2, (Option.some FieldType.int))
theorem mo_Lo_askWorth : MOK M_Lo_askWorth 1 := ⟨(List.mem_of_getElem? (i := 492) (by decide +kernel)), (List.mem_of_getElem? (i := 47) (by decide +kernel)), ⟨by decide +kernel, by decide +kernel⟩, by decide +kernel, Nat.le_of_ble_eq_true rfl⟩
abbrev M_Ne_askWorth : MD := (⟨"RiverRoad$Nest", "askWorth", "(LRiverRoad$Trace;)I"⟩, prog_6_method_3_code, 2, (Option.some FieldType.int))
theorem mo_Ne_askWorth : MOK M_Ne_askWorth 1 := ⟨(List.mem_of_getElem? (i := 501) (by decide +kernel)), (List.mem_of_getElem? (i := 44) (by decide +kernel)), ⟨by decide +kernel, by decide +kernel⟩, by decide +kernel, Nat.le_of_ble_eq_true rfl⟩
abbrev M_Row_askWorth : MD := (⟨"RiverRoad$Row", "askWorth", "(LRiverRoad$Trace;)I"⟩, prog_8_method_3_code, 2, (Option.some FieldType.int))
theorem mo_Row_askWorth : MOK M_Row_askWorth 1 := ⟨(List.mem_of_getElem? (i := 511) (by decide +kernel)), (List.mem_of_getElem? (i := 41) (by decide +kernel)), ⟨by decide +kernel, by decide +kernel⟩, by decide +kernel, Nat.le_of_ble_eq_true rfl⟩
abbrev M_JL_bitCount : MD := (⟨"java/lang/Long", "bitCount", "(J)I"⟩, prog_16_method_50_code, 2, (Option.some FieldType.int))
theorem mo_JL_bitCount : MOK M_JL_bitCount 1 := ⟨(List.mem_of_getElem? (i := 515) (by decide +kernel)), (List.mem_of_getElem? (i := 51) (by decide +kernel)), ⟨by decide +kernel, by decide +kernel⟩, by decide +kernel, Nat.le_of_ble_eq_true rfl⟩
abbrev M_Ar_askMark : MD := (⟨"RiverRoad$Arches", "askMark", "(LRiverRoad$Trace;)I"⟩, prog_2_method_4_code, 2, (Option.some FieldType.int))
theorem mo_Ar_askMark : MOK M_Ar_askMark 1 := ⟨(List.mem_of_getElem? (i := 525) (by decide +kernel)), (List.mem_of_getElem? (i := 42) (by decide +kernel)), ⟨by decide +kernel, by decide +kernel⟩, by decide +kernel, Nat.le_of_ble_eq_true rfl⟩
abbrev M_Fo_askMark : MD := (⟨"RiverRoad$Fold", "askMark", "(LRiverRoad$Trace;)I"⟩, prog_3_method_4_code, 2, (Option.some FieldType.int))
theorem mo_Fo_askMark : MOK M_Fo_askMark 1 := ⟨(List.mem_of_getElem? (i := 531) (by decide +kernel)), (List.mem_of_getElem? (i := 50) (by decide +kernel)), ⟨by decide +kernel, by decide +kernel⟩, by decide +kernel, Nat.le_of_ble_eq_true rfl⟩
abbrev M_Pe_askMark : MD := (⟨"RiverRoad$Peaks", "askMark", "(LRiverRoad$Trace;)I"⟩, prog_7_method_3_code, 2, (Option.some FieldType.int))
theorem mo_Pe_askMark : MOK M_Pe_askMark 1 := ⟨(List.mem_of_getElem? (i := 539) (by decide +kernel)), (List.mem_of_getElem? (i := 43) (by decide +kernel)), ⟨by decide +kernel, by decide +kernel⟩, by decide +kernel, Nat.le_of_ble_eq_true rfl⟩
abbrev M_Th_askMark : MD := (⟨"RiverRoad$Thing", "askMark", "(LRiverRoad$Trace;)I"⟩, prog_11_method_5_code, 2, (Option.some FieldType.int))
theorem mo_Th_askMark : MOK M_Th_askMark 1 := ⟨(List.mem_of_getElem? (i := 548) (by decide +kernel)), (List.mem_of_getElem? (i := 40) (by decide +kernel)), ⟨by decide +kernel, by decide +kernel⟩, by decide +kernel, Nat.le_of_ble_eq_true rfl⟩
abbrev M_RR_trace : MD := (⟨"RiverRoad", "trace", "(I)I"⟩, prog_1_method_17_code, 2, (Option.some FieldType.int))
theorem mo_RR_trace : MOK M_RR_trace 1 := ⟨(List.mem_of_getElem? (i := 553) (by decide +kernel)), (List.mem_of_getElem? (i := 35) (by decide +kernel)), ⟨by decide +kernel, by decide +kernel⟩, by decide +kernel, Nat.le_of_ble_eq_true rfl⟩
abbrev M_RR_sign : MD := (⟨"RiverRoad", "sign", "(II)I"⟩, prog_1_method_18_code, 5, (Option.some FieldType.int))
theorem mo_RR_sign : MOK M_RR_sign 2 := ⟨(List.mem_of_getElem? (i := 557) (by decide +kernel)), (List.mem_of_getElem? (i := 35) (by decide +kernel)), ⟨by decide +kernel, by decide +kernel⟩, by decide +kernel, Nat.le_of_ble_eq_true rfl⟩
abbrev M_RR_isCrossing : MD := (⟨"RiverRoad", "isCrossing", "(II)Z"⟩, prog_1_method_38_code, 2, (Option.some FieldType.boolean))
theorem mo_RR_isCrossing : MOK M_RR_isCrossing 2 := ⟨(List.mem_of_getElem? (i := 560) (by decide +kernel)), (List.mem_of_getElem? (i := 35) (by decide +kernel)), ⟨by decide +kernel, by decide +kernel⟩, by decide +kernel, Nat.le_of_ble_eq_true rfl⟩
abbrev M_RR_joined : MD := (⟨"RiverRoad", "joined", "(II)I"⟩, prog_1_method_19_code, 5, (Option.some FieldType.int))
theorem mo_RR_joined : MOK M_RR_joined 2 := ⟨(List.mem_of_getElem? (i := 564) (by decide +kernel)), (List.mem_of_getElem? (i := 35) (by decide +kernel)), ⟨by decide +kernel, by decide +kernel⟩, by decide +kernel, Nat.le_of_ble_eq_true rfl⟩
abbrev M_RR_rank : MD := (⟨"RiverRoad", "rank", "(I)I"⟩, prog_1_method_20_code, 4, (Option.some FieldType.int))
theorem mo_RR_rank : MOK M_RR_rank 1 := ⟨(List.mem_of_getElem? (i := 568) (by decide +kernel)), (List.mem_of_getElem? (i := 35) (by decide +kernel)), ⟨by decide +kernel, by decide +kernel⟩, by decide +kernel, Nat.le_of_ble_eq_true rfl⟩
abbrev M_RR_rankOf : MD := (⟨"RiverRoad", "rankOf", "(LRiverRoad$Arches;)I"⟩, prog_1_method_51_code, 6, (Option.some FieldType.int))
theorem mo_RR_rankOf : MOK M_RR_rankOf 1 := ⟨(List.mem_of_getElem? (i := 573) (by decide +kernel)), (List.mem_of_getElem? (i := 35) (by decide +kernel)), ⟨by decide +kernel, by decide +kernel⟩, by decide +kernel, Nat.le_of_ble_eq_true rfl⟩
abbrev M_RR_loops : MD := (⟨"RiverRoad", "loops", "(II)I"⟩, prog_1_method_21_code, 5, (Option.some FieldType.int))
theorem mo_RR_loops : MOK M_RR_loops 2 := ⟨(List.mem_of_getElem? (i := 577) (by decide +kernel)), (List.mem_of_getElem? (i := 35) (by decide +kernel)), ⟨by decide +kernel, by decide +kernel⟩, by decide +kernel, Nat.le_of_ble_eq_true rfl⟩
abbrev M_RR_way : MD := (⟨"RiverRoad", "way", "(III)I"⟩, prog_1_method_22_code, 7, (Option.some FieldType.int))
theorem mo_RR_way : MOK M_RR_way 3 := ⟨(List.mem_of_getElem? (i := 581) (by decide +kernel)), (List.mem_of_getElem? (i := 35) (by decide +kernel)), ⟨by decide +kernel, by decide +kernel⟩, by decide +kernel, Nat.le_of_ble_eq_true rfl⟩
abbrev M_La_goneOn : MD := (⟨"RiverRoad$Land", "goneOn", "(II)I"⟩, prog_4_method_2_code, 3, (Option.some FieldType.int))
theorem mo_La_goneOn : MOK M_La_goneOn 2 := ⟨(List.mem_of_getElem? (i := 587) (by decide +kernel)), (List.mem_of_getElem? (i := 46) (by decide +kernel)), ⟨by decide +kernel, by decide +kernel⟩, by decide +kernel, Nat.le_of_ble_eq_true rfl⟩
abbrev M_RR_lands : MD := (⟨"RiverRoad", "lands", "(II)I"⟩, prog_1_method_23_code, 3, (Option.some FieldType.int))
theorem mo_RR_lands : MOK M_RR_lands 2 := ⟨(List.mem_of_getElem? (i := 591) (by decide +kernel)), (List.mem_of_getElem? (i := 35) (by decide +kernel)), ⟨by decide +kernel, by decide +kernel⟩, by decide +kernel, Nat.le_of_ble_eq_true rfl⟩
abbrev M_RR_landsOf : MD := (⟨"RiverRoad", "landsOf", "(II)I"⟩, prog_1_method_54_code, 2, (Option.some FieldType.int))
theorem mo_RR_landsOf : MOK M_RR_landsOf 2 := ⟨(List.mem_of_getElem? (i := 594) (by decide +kernel)), (List.mem_of_getElem? (i := 35) (by decide +kernel)), ⟨by decide +kernel, by decide +kernel⟩, by decide +kernel, Nat.le_of_ble_eq_true rfl⟩
abbrev M_RR_unlike : MD := (⟨"RiverRoad", "unlike", "(I)I"⟩, prog_1_method_24_code, 2, (Option.some FieldType.int))
theorem mo_RR_unlike : MOK M_RR_unlike 1 := ⟨(List.mem_of_getElem? (i := 600) (by decide +kernel)), (List.mem_of_getElem? (i := 35) (by decide +kernel)), ⟨by decide +kernel, by decide +kernel⟩, by decide +kernel, Nat.le_of_ble_eq_true rfl⟩
abbrev M_RR_sum : MD := (⟨"RiverRoad", "sum", "(II)J"⟩, prog_1_method_25_code, 8, (Option.some FieldType.long))
theorem mo_RR_sum : MOK M_RR_sum 2 := ⟨(List.mem_of_getElem? (i := 606) (by decide +kernel)), (List.mem_of_getElem? (i := 35) (by decide +kernel)), ⟨by decide +kernel, by decide +kernel⟩, by decide +kernel, Nat.le_of_ble_eq_true rfl⟩
abbrev M_RR_stamp : MD := (⟨"RiverRoad", "stamp", "(II)I"⟩, prog_1_method_26_code, 5, (Option.some FieldType.int))
theorem mo_RR_stamp : MOK M_RR_stamp 2 := ⟨(List.mem_of_getElem? (i := 611) (by decide +kernel)), (List.mem_of_getElem? (i := 35) (by decide +kernel)), ⟨by decide +kernel, by decide +kernel⟩, by decide +kernel, Nat.le_of_ble_eq_true rfl⟩
abbrev M_RR_clash : MD := (⟨"RiverRoad", "clash", "(II)I"⟩, prog_1_method_27_code, 5, (Option.some FieldType.int))
theorem mo_RR_clash : MOK M_RR_clash 2 := ⟨(List.mem_of_getElem? (i := 615) (by decide +kernel)), (List.mem_of_getElem? (i := 35) (by decide +kernel)), ⟨by decide +kernel, by decide +kernel⟩, by decide +kernel, Nat.le_of_ble_eq_true rfl⟩
abbrev M_RR_folds : MD := (⟨"RiverRoad", "folds", "(I)I"⟩, prog_1_method_28_code, 2, (Option.some FieldType.int))
theorem mo_RR_folds : MOK M_RR_folds 1 := ⟨(List.mem_of_getElem? (i := 619) (by decide +kernel)), (List.mem_of_getElem? (i := 35) (by decide +kernel)), ⟨by decide +kernel, by decide +kernel⟩, by decide +kernel, Nat.le_of_ble_eq_true rfl⟩
abbrev M_RR_nthFold : MD := (⟨"RiverRoad", "nthFold", "(III)I"⟩, prog_1_method_29_code, 4, (Option.some FieldType.int))
theorem mo_RR_nthFold : MOK M_RR_nthFold 3 := ⟨(List.mem_of_getElem? (i := 625) (by decide +kernel)), (List.mem_of_getElem? (i := 35) (by decide +kernel)), ⟨by decide +kernel, by decide +kernel⟩, by decide +kernel, Nat.le_of_ble_eq_true rfl⟩
abbrev M_RR_seekNthFold : MD := (⟨"RiverRoad", "seekNthFold", "(II)Z"⟩, prog_1_method_58_code, 6, (Option.some FieldType.boolean))
theorem mo_RR_seekNthFold : MOK M_RR_seekNthFold 2 := ⟨(List.mem_of_getElem? (i := 629) (by decide +kernel)), (List.mem_of_getElem? (i := 35) (by decide +kernel)), ⟨by decide +kernel, by decide +kernel⟩, by decide +kernel, Nat.le_of_ble_eq_true rfl⟩
abbrev M_RR_seekFold : MD := (⟨"RiverRoad", "seekFold", "(III)I"⟩, prog_1_method_59_code, 6, (Option.some FieldType.int))
theorem mo_RR_seekFold : MOK M_RR_seekFold 3 := ⟨(List.mem_of_getElem? (i := 633) (by decide +kernel)), (List.mem_of_getElem? (i := 35) (by decide +kernel)), ⟨by decide +kernel, by decide +kernel⟩, by decide +kernel, Nat.le_of_ble_eq_true rfl⟩
abbrev M_RR_fits : MD := (⟨"RiverRoad", "fits", "(III)Z"⟩, prog_1_method_60_code, 4, (Option.some FieldType.boolean))
theorem mo_RR_fits : MOK M_RR_fits 3 := ⟨(List.mem_of_getElem? (i := 637) (by decide +kernel)), (List.mem_of_getElem? (i := 35) (by decide +kernel)), ⟨by decide +kernel, by decide +kernel⟩, by decide +kernel, Nat.le_of_ble_eq_true rfl⟩
abbrev M_RR_closes : MD := (⟨"RiverRoad", "closes", "(IIII)Z"⟩, prog_1_method_61_code, 9, (Option.some FieldType.boolean))
theorem mo_RR_closes : MOK M_RR_closes 4 := ⟨(List.mem_of_getElem? (i := 641) (by decide +kernel)), (List.mem_of_getElem? (i := 35) (by decide +kernel)), ⟨by decide +kernel, by decide +kernel⟩, by decide +kernel, Nat.le_of_ble_eq_true rfl⟩
abbrev M_RR_mateOf : MD := (⟨"RiverRoad", "mateOf", "(III)I"⟩, prog_1_method_62_code, 4, (Option.some FieldType.int))
theorem mo_RR_mateOf : MOK M_RR_mateOf 3 := ⟨(List.mem_of_getElem? (i := 644) (by decide +kernel)), (List.mem_of_getElem? (i := 35) (by decide +kernel)), ⟨by decide +kernel, by decide +kernel⟩, by decide +kernel, Nat.le_of_ble_eq_true rfl⟩
abbrev M_JA_copyOf : MD := (⟨"java/util/Arrays", "copyOf", "([II)[I"⟩, prog_19_method_123_code, 3, (Option.some (FieldType.array FieldType.int)))
theorem mo_JA_copyOf : MOK M_JA_copyOf 2 := ⟨(List.mem_of_getElem? (i := 647) (by decide +kernel)), (List.mem_of_getElem? (i := 45) (by decide +kernel)), ⟨by decide +kernel, by decide +kernel⟩, by decide +kernel, Nat.le_of_ble_eq_true rfl⟩
abbrev M_RR_count : MD := (⟨"RiverRoad", "count", "(I)I"⟩, prog_1_method_30_code, 7, (Option.some FieldType.int))
theorem mo_RR_count : MOK M_RR_count 1 := ⟨(List.mem_of_getElem? (i := 651) (by decide +kernel)), (List.mem_of_getElem? (i := 35) (by decide +kernel)), ⟨by decide +kernel, by decide +kernel⟩, by decide +kernel, Nat.le_of_ble_eq_true rfl⟩
abbrev M_RR_isCounted : MD := (⟨"RiverRoad", "isCounted", "(LRiverRoad$Thing;I)Z"⟩, prog_1_method_41_code, 2, (Option.some FieldType.boolean))
theorem mo_RR_isCounted : MOK M_RR_isCounted 2 := ⟨(List.mem_of_getElem? (i := 654) (by decide +kernel)), (List.mem_of_getElem? (i := 35) (by decide +kernel)), ⟨by decide +kernel, by decide +kernel⟩, by decide +kernel, Nat.le_of_ble_eq_true rfl⟩
abbrev M_RR_status : MD := (⟨"RiverRoad", "status", "()I"⟩, prog_1_method_31_code, 1, (Option.some FieldType.int))
theorem mo_RR_status : MOK M_RR_status 0 := ⟨(List.mem_of_getElem? (i := 658) (by decide +kernel)), (List.mem_of_getElem? (i := 35) (by decide +kernel)), ⟨by decide +kernel, by decide +kernel⟩, by decide +kernel, Nat.le_of_ble_eq_true rfl⟩
abbrev M_Mo_init : MD := (⟨"RiverRoadModel", "<init>", "()V"⟩, prog_14_method_1_code, 1, (Option.none : Option FieldType))
theorem mo_Mo_init : MOK M_Mo_init 0 := ⟨(List.mem_of_getElem? (i := 663) (by decide +kernel)), (List.mem_of_getElem? (i := 37) (by decide +kernel)), ⟨by decide +kernel, by decide +kernel⟩, by decide +kernel, Nat.le_of_ble_eq_true rfl⟩
abbrev M_Mo_sheet : MD := (⟨"RiverRoadModel", "sheet", "(III)I"⟩, prog_14_method_6_code, 5, (Option.some FieldType.int))
theorem mo_Mo_sheet : MOK M_Mo_sheet 3 := ⟨(List.mem_of_getElem? (i := 771) (by decide +kernel)), (List.mem_of_getElem? (i := 37) (by decide +kernel)), ⟨by decide +kernel, by decide +kernel⟩, by decide +kernel, Nat.le_of_ble_eq_true rfl⟩
abbrev M_Mo_isSheet : MD := (⟨"RiverRoadModel", "isSheet", "(I)Z"⟩, prog_14_method_5_code, 1, (Option.some FieldType.boolean))
theorem mo_Mo_isSheet : MOK M_Mo_isSheet 1 := ⟨(List.mem_of_getElem? (i := 774) (by decide +kernel)), (List.mem_of_getElem? (i := 37) (by decide +kernel)), ⟨by decide +kernel, by decide +kernel⟩, by decide +kernel, Nat.le_of_ble_eq_true rfl⟩
abbrev M_Mo_in : MD := (⟨"RiverRoadModel", "in", "(JJJ)Z"⟩, prog_14_method_2_code, 6, (Option.some FieldType.boolean))
theorem mo_Mo_in : MOK M_Mo_in 3 := ⟨(List.mem_of_getElem? (i := 778) (by decide +kernel)), (List.mem_of_getElem? (i := 37) (by decide +kernel)), ⟨by decide +kernel, by decide +kernel⟩, by decide +kernel, Nat.le_of_ble_eq_true rfl⟩
abbrev M_Mo_finds : MD := (⟨"RiverRoadModel", "finds", "(I)I"⟩, prog_14_method_3_code, 2, (Option.some FieldType.int))
theorem mo_Mo_finds : MOK M_Mo_finds 1 := ⟨(List.mem_of_getElem? (i := 784) (by decide +kernel)), (List.mem_of_getElem? (i := 37) (by decide +kernel)), ⟨by decide +kernel, by decide +kernel⟩, by decide +kernel, Nat.le_of_ble_eq_true rfl⟩
abbrev M_Mo_well : MD := (⟨"RiverRoadModel", "well", "(I)I"⟩, prog_14_method_4_code, 2, (Option.some FieldType.int))
theorem mo_Mo_well : MOK M_Mo_well 1 := ⟨(List.mem_of_getElem? (i := 789) (by decide +kernel)), (List.mem_of_getElem? (i := 37) (by decide +kernel)), ⟨by decide +kernel, by decide +kernel⟩, by decide +kernel, Nat.le_of_ble_eq_true rfl⟩
abbrev M_Mo_set : MD := (⟨"RiverRoadModel", "set", "(III)I"⟩, prog_14_method_7_code, 5, (Option.some FieldType.int))
theorem mo_Mo_set : MOK M_Mo_set 3 := ⟨(List.mem_of_getElem? (i := 793) (by decide +kernel)), (List.mem_of_getElem? (i := 37) (by decide +kernel)), ⟨by decide +kernel, by decide +kernel⟩, by decide +kernel, Nat.le_of_ble_eq_true rfl⟩
abbrev M_Mo_copy : MD := (⟨"RiverRoadModel", "copy", "(IIIII)I"⟩, prog_14_method_8_code, 7, (Option.some FieldType.int))
theorem mo_Mo_copy : MOK M_Mo_copy 5 := ⟨(List.mem_of_getElem? (i := 797) (by decide +kernel)), (List.mem_of_getElem? (i := 37) (by decide +kernel)), ⟨by decide +kernel, by decide +kernel⟩, by decide +kernel, Nat.le_of_ble_eq_true rfl⟩
abbrev M_Mo_drop : MD := (⟨"RiverRoadModel", "drop", "(I)I"⟩, prog_14_method_9_code, 2, (Option.some FieldType.int))
theorem mo_Mo_drop : MOK M_Mo_drop 1 := ⟨(List.mem_of_getElem? (i := 801) (by decide +kernel)), (List.mem_of_getElem? (i := 37) (by decide +kernel)), ⟨by decide +kernel, by decide +kernel⟩, by decide +kernel, Nat.le_of_ble_eq_true rfl⟩
abbrev M_Mo_row : MD := (⟨"RiverRoadModel", "row", "(IIII)I"⟩, prog_14_method_19_code, 7, (Option.some FieldType.int))
theorem mo_Mo_row : MOK M_Mo_row 4 := ⟨(List.mem_of_getElem? (i := 805) (by decide +kernel)), (List.mem_of_getElem? (i := 37) (by decide +kernel)), ⟨by decide +kernel, by decide +kernel⟩, by decide +kernel, Nat.le_of_ble_eq_true rfl⟩
abbrev M_Mo_isPlace : MD := (⟨"RiverRoadModel", "isPlace", "(I)Z"⟩, prog_14_method_10_code, 1, (Option.some FieldType.boolean))
theorem mo_Mo_isPlace : MOK M_Mo_isPlace 1 := ⟨(List.mem_of_getElem? (i := 808) (by decide +kernel)), (List.mem_of_getElem? (i := 37) (by decide +kernel)), ⟨by decide +kernel, by decide +kernel⟩, by decide +kernel, Nat.le_of_ble_eq_true rfl⟩
abbrev M_Mo_keep : MD := (⟨"RiverRoadModel", "keep", "(II)I"⟩, prog_14_method_18_code, 4, (Option.some FieldType.int))
theorem mo_Mo_keep : MOK M_Mo_keep 2 := ⟨(List.mem_of_getElem? (i := 814) (by decide +kernel)), (List.mem_of_getElem? (i := 37) (by decide +kernel)), ⟨by decide +kernel, by decide +kernel⟩, by decide +kernel, Nat.le_of_ble_eq_true rfl⟩
abbrev M_Mo_rowKind : MD := (⟨"RiverRoadModel", "rowKind", "()I"⟩, prog_14_method_13_code, 6, (Option.some FieldType.int))
theorem mo_Mo_rowKind : MOK M_Mo_rowKind 0 := ⟨(List.mem_of_getElem? (i := 818) (by decide +kernel)), (List.mem_of_getElem? (i := 37) (by decide +kernel)), ⟨by decide +kernel, by decide +kernel⟩, by decide +kernel, Nat.le_of_ble_eq_true rfl⟩
abbrev M_Mo_joins : MD := (⟨"RiverRoadModel", "joins", "([I[III)Z"⟩, prog_14_method_12_code, 7, (Option.some FieldType.boolean))
theorem mo_Mo_joins : MOK M_Mo_joins 4 := ⟨(List.mem_of_getElem? (i := 822) (by decide +kernel)), (List.mem_of_getElem? (i := 37) (by decide +kernel)), ⟨by decide +kernel, by decide +kernel⟩, by decide +kernel, Nat.le_of_ble_eq_true rfl⟩
abbrev M_Mo_landLoops : MD := (⟨"RiverRoadModel", "landLoops", "(I)I"⟩, prog_14_method_15_code, 2, (Option.some FieldType.int))
theorem mo_Mo_landLoops : MOK M_Mo_landLoops 1 := ⟨(List.mem_of_getElem? (i := 826) (by decide +kernel)), (List.mem_of_getElem? (i := 37) (by decide +kernel)), ⟨by decide +kernel, by decide +kernel⟩, by decide +kernel, Nat.le_of_ble_eq_true rfl⟩
abbrev M_Mo_findLoops : MD := (⟨"RiverRoadModel", "findLoops", "([II[III)I"⟩, prog_14_method_14_code, 9, (Option.some FieldType.int))
theorem mo_Mo_findLoops : MOK M_Mo_findLoops 5 := ⟨(List.mem_of_getElem? (i := 830) (by decide +kernel)), (List.mem_of_getElem? (i := 37) (by decide +kernel)), ⟨by decide +kernel, by decide +kernel⟩, by decide +kernel, Nat.le_of_ble_eq_true rfl⟩
abbrev M_Mo_isFolding : MD := (⟨"RiverRoadModel", "isFolding", "([III)Z"⟩, prog_14_method_16_code, 10, (Option.some FieldType.boolean))
theorem mo_Mo_isFolding : MOK M_Mo_isFolding 3 := ⟨(List.mem_of_getElem? (i := 834) (by decide +kernel)), (List.mem_of_getElem? (i := 37) (by decide +kernel)), ⟨by decide +kernel, by decide +kernel⟩, by decide +kernel, Nat.le_of_ble_eq_true rfl⟩
abbrev M_Mo_copyThing : MD := (⟨"RiverRoadModel", "copyThing", "(II)V"⟩, prog_14_method_17_code, 4, (Option.none : Option FieldType))
theorem mo_Mo_copyThing : MOK M_Mo_copyThing 2 := ⟨(List.mem_of_getElem? (i := 839) (by decide +kernel)), (List.mem_of_getElem? (i := 37) (by decide +kernel)), ⟨by decide +kernel, by decide +kernel⟩, by decide +kernel, Nat.le_of_ble_eq_true rfl⟩
abbrev M_Mo_land : MD := (⟨"RiverRoadModel", "land", "(III)I"⟩, prog_14_method_21_code, 6, (Option.some FieldType.int))
theorem mo_Mo_land : MOK M_Mo_land 3 := ⟨(List.mem_of_getElem? (i := 843) (by decide +kernel)), (List.mem_of_getElem? (i := 37) (by decide +kernel)), ⟨by decide +kernel, by decide +kernel⟩, by decide +kernel, Nat.le_of_ble_eq_true rfl⟩
abbrev M_Mo_refusal : MD := (⟨"RiverRoadModel", "refusal", "(II)I"⟩, prog_14_method_20_code, 3, (Option.some FieldType.int))
theorem mo_Mo_refusal : MOK M_Mo_refusal 2 := ⟨(List.mem_of_getElem? (i := 847) (by decide +kernel)), (List.mem_of_getElem? (i := 37) (by decide +kernel)), ⟨by decide +kernel, by decide +kernel⟩, by decide +kernel, Nat.le_of_ble_eq_true rfl⟩
abbrev M_Mo_isOf : MD := (⟨"RiverRoadModel", "isOf", "(II)Z"⟩, prog_14_method_11_code, 2, (Option.some FieldType.boolean))
theorem mo_Mo_isOf : MOK M_Mo_isOf 2 := ⟨(List.mem_of_getElem? (i := 850) (by decide +kernel)), (List.mem_of_getElem? (i := 37) (by decide +kernel)), ⟨by decide +kernel, by decide +kernel⟩, by decide +kernel, Nat.le_of_ble_eq_true rfl⟩
abbrev M_Mo_strip : MD := (⟨"RiverRoadModel", "strip", "(IIII)I"⟩, prog_14_method_22_code, 7, (Option.some FieldType.int))
theorem mo_Mo_strip : MOK M_Mo_strip 4 := ⟨(List.mem_of_getElem? (i := 854) (by decide +kernel)), (List.mem_of_getElem? (i := 37) (by decide +kernel)), ⟨by decide +kernel, by decide +kernel⟩, by decide +kernel, Nat.le_of_ble_eq_true rfl⟩
abbrev M_Mo_nth : MD := (⟨"RiverRoadModel", "nth", "(III)I"⟩, prog_14_method_26_code, 4, (Option.some FieldType.int))
theorem mo_Mo_nth : MOK M_Mo_nth 3 := ⟨(List.mem_of_getElem? (i := 858) (by decide +kernel)), (List.mem_of_getElem? (i := 37) (by decide +kernel)), ⟨by decide +kernel, by decide +kernel⟩, by decide +kernel, Nat.le_of_ble_eq_true rfl⟩
abbrev M_Mo_tell : MD := (⟨"RiverRoadModel", "tell", "([IIII)Z"⟩, prog_14_method_24_code, 10, (Option.some FieldType.boolean))
theorem mo_Mo_tell : MOK M_Mo_tell 4 := ⟨(List.mem_of_getElem? (i := 863) (by decide +kernel)), (List.mem_of_getElem? (i := 37) (by decide +kernel)), ⟨by decide +kernel, by decide +kernel⟩, by decide +kernel, Nat.le_of_ble_eq_true rfl⟩
abbrev M_Mo_endsOf : MD := (⟨"RiverRoadModel", "endsOf", "(II)I"⟩, prog_14_method_23_code, 5, (Option.some FieldType.int))
theorem mo_Mo_endsOf : MOK M_Mo_endsOf 2 := ⟨(List.mem_of_getElem? (i := 867) (by decide +kernel)), (List.mem_of_getElem? (i := 37) (by decide +kernel)), ⟨by decide +kernel, by decide +kernel⟩, by decide +kernel, Nat.le_of_ble_eq_true rfl⟩
abbrev M_Mo_turn : MD := (⟨"RiverRoadModel", "turn", "(II)I"⟩, prog_14_method_29_code, 4, (Option.some FieldType.int))
theorem mo_Mo_turn : MOK M_Mo_turn 2 := ⟨(List.mem_of_getElem? (i := 871) (by decide +kernel)), (List.mem_of_getElem? (i := 37) (by decide +kernel)), ⟨by decide +kernel, by decide +kernel⟩, by decide +kernel, Nat.le_of_ble_eq_true rfl⟩
abbrev M_Mo_turnTo : MD := (⟨"RiverRoadModel", "turnTo", "([II[III)V"⟩, prog_14_method_27_code, 9, (Option.none : Option FieldType))
theorem mo_Mo_turnTo : MOK M_Mo_turnTo 5 := ⟨(List.mem_of_getElem? (i := 875) (by decide +kernel)), (List.mem_of_getElem? (i := 37) (by decide +kernel)), ⟨by decide +kernel, by decide +kernel⟩, by decide +kernel, Nat.le_of_ble_eq_true rfl⟩
abbrev M_Mo_mirror : MD := (⟨"RiverRoadModel", "mirror", "(II)I"⟩, prog_14_method_30_code, 4, (Option.some FieldType.int))
theorem mo_Mo_mirror : MOK M_Mo_mirror 2 := ⟨(List.mem_of_getElem? (i := 879) (by decide +kernel)), (List.mem_of_getElem? (i := 37) (by decide +kernel)), ⟨by decide +kernel, by decide +kernel⟩, by decide +kernel, Nat.le_of_ble_eq_true rfl⟩
abbrev M_Mo_mirrorTo : MD := (⟨"RiverRoadModel", "mirrorTo", "([II[III)V"⟩, prog_14_method_28_code, 7, (Option.none : Option FieldType))
theorem mo_Mo_mirrorTo : MOK M_Mo_mirrorTo 5 := ⟨(List.mem_of_getElem? (i := 883) (by decide +kernel)), (List.mem_of_getElem? (i := 37) (by decide +kernel)), ⟨by decide +kernel, by decide +kernel⟩, by decide +kernel, Nat.le_of_ble_eq_true rfl⟩
abbrev M_Mo_clear : MD := (⟨"RiverRoadModel", "clear", "(I)I"⟩, prog_14_method_31_code, 3, (Option.some FieldType.int))
theorem mo_Mo_clear : MOK M_Mo_clear 1 := ⟨(List.mem_of_getElem? (i := 887) (by decide +kernel)), (List.mem_of_getElem? (i := 37) (by decide +kernel)), ⟨by decide +kernel, by decide +kernel⟩, by decide +kernel, Nat.le_of_ble_eq_true rfl⟩
abbrev M_Mo_kind : MD := (⟨"RiverRoadModel", "kind", "(I)I"⟩, prog_14_method_32_code, 2, (Option.some FieldType.int))
theorem mo_Mo_kind : MOK M_Mo_kind 1 := ⟨(List.mem_of_getElem? (i := 891) (by decide +kernel)), (List.mem_of_getElem? (i := 37) (by decide +kernel)), ⟨by decide +kernel, by decide +kernel⟩, by decide +kernel, Nat.le_of_ble_eq_true rfl⟩
abbrev M_Mo_is : MD := (⟨"RiverRoadModel", "is", "(II)I"⟩, prog_14_method_33_code, 3, (Option.some FieldType.int))
theorem mo_Mo_is : MOK M_Mo_is 2 := ⟨(List.mem_of_getElem? (i := 895) (by decide +kernel)), (List.mem_of_getElem? (i := 37) (by decide +kernel)), ⟨by decide +kernel, by decide +kernel⟩, by decide +kernel, Nat.le_of_ble_eq_true rfl⟩
abbrev M_Mo_as : MD := (⟨"RiverRoadModel", "as", "(II)I"⟩, prog_14_method_34_code, 4, (Option.some FieldType.int))
theorem mo_Mo_as : MOK M_Mo_as 2 := ⟨(List.mem_of_getElem? (i := 900) (by decide +kernel)), (List.mem_of_getElem? (i := 37) (by decide +kernel)), ⟨by decide +kernel, by decide +kernel⟩, by decide +kernel, Nat.le_of_ble_eq_true rfl⟩
abbrev M_Mo_ask : MD := (⟨"RiverRoadModel", "ask", "(II)I"⟩, prog_14_method_39_code, 3, (Option.some FieldType.int))
theorem mo_Mo_ask : MOK M_Mo_ask 2 := ⟨(List.mem_of_getElem? (i := 904) (by decide +kernel)), (List.mem_of_getElem? (i := 37) (by decide +kernel)), ⟨by decide +kernel, by decide +kernel⟩, by decide +kernel, Nat.le_of_ble_eq_true rfl⟩
abbrev M_Mo_sizeOf : MD := (⟨"RiverRoadModel", "sizeOf", "(I)I"⟩, prog_14_method_36_code, 3, (Option.some FieldType.int))
theorem mo_Mo_sizeOf : MOK M_Mo_sizeOf 1 := ⟨(List.mem_of_getElem? (i := 908) (by decide +kernel)), (List.mem_of_getElem? (i := 37) (by decide +kernel)), ⟨by decide +kernel, by decide +kernel⟩, by decide +kernel, Nat.le_of_ble_eq_true rfl⟩
abbrev M_Mo_begins : MD := (⟨"RiverRoadModel", "begins", "(I)V"⟩, prog_14_method_35_code, 2, (Option.none : Option FieldType))
theorem mo_Mo_begins : MOK M_Mo_begins 1 := ⟨(List.mem_of_getElem? (i := 912) (by decide +kernel)), (List.mem_of_getElem? (i := 37) (by decide +kernel)), ⟨by decide +kernel, by decide +kernel⟩, by decide +kernel, Nat.le_of_ble_eq_true rfl⟩
abbrev M_Mo_worth : MD := (⟨"RiverRoadModel", "worth", "(I)I"⟩, prog_14_method_37_code, 5, (Option.some FieldType.int))
theorem mo_Mo_worth : MOK M_Mo_worth 1 := ⟨(List.mem_of_getElem? (i := 916) (by decide +kernel)), (List.mem_of_getElem? (i := 37) (by decide +kernel)), ⟨by decide +kernel, by decide +kernel⟩, by decide +kernel, Nat.le_of_ble_eq_true rfl⟩
abbrev M_Mo_mark : MD := (⟨"RiverRoadModel", "mark", "(I)I"⟩, prog_14_method_38_code, 5, (Option.some FieldType.int))
theorem mo_Mo_mark : MOK M_Mo_mark 1 := ⟨(List.mem_of_getElem? (i := 920) (by decide +kernel)), (List.mem_of_getElem? (i := 37) (by decide +kernel)), ⟨by decide +kernel, by decide +kernel⟩, by decide +kernel, Nat.le_of_ble_eq_true rfl⟩
abbrev M_Mo_trace : MD := (⟨"RiverRoadModel", "trace", "(I)I"⟩, prog_14_method_40_code, 2, (Option.some FieldType.int))
theorem mo_Mo_trace : MOK M_Mo_trace 1 := ⟨(List.mem_of_getElem? (i := 924) (by decide +kernel)), (List.mem_of_getElem? (i := 37) (by decide +kernel)), ⟨by decide +kernel, by decide +kernel⟩, by decide +kernel, Nat.le_of_ble_eq_true rfl⟩
abbrev M_Mo_sign : MD := (⟨"RiverRoadModel", "sign", "(II)I"⟩, prog_14_method_41_code, 4, (Option.some FieldType.int))
theorem mo_Mo_sign : MOK M_Mo_sign 2 := ⟨(List.mem_of_getElem? (i := 928) (by decide +kernel)), (List.mem_of_getElem? (i := 37) (by decide +kernel)), ⟨by decide +kernel, by decide +kernel⟩, by decide +kernel, Nat.le_of_ble_eq_true rfl⟩
abbrev M_Mo_joined : MD := (⟨"RiverRoadModel", "joined", "(II)I"⟩, prog_14_method_42_code, 4, (Option.some FieldType.int))
theorem mo_Mo_joined : MOK M_Mo_joined 2 := ⟨(List.mem_of_getElem? (i := 932) (by decide +kernel)), (List.mem_of_getElem? (i := 37) (by decide +kernel)), ⟨by decide +kernel, by decide +kernel⟩, by decide +kernel, Nat.le_of_ble_eq_true rfl⟩
abbrev M_Mo_rank : MD := (⟨"RiverRoadModel", "rank", "(I)I"⟩, prog_14_method_43_code, 3, (Option.some FieldType.int))
theorem mo_Mo_rank : MOK M_Mo_rank 1 := ⟨(List.mem_of_getElem? (i := 936) (by decide +kernel)), (List.mem_of_getElem? (i := 37) (by decide +kernel)), ⟨by decide +kernel, by decide +kernel⟩, by decide +kernel, Nat.le_of_ble_eq_true rfl⟩
abbrev M_Mo_rankOf : MD := (⟨"RiverRoadModel", "rankOf", "([III)I"⟩, prog_14_method_25_code, 8, (Option.some FieldType.int))
theorem mo_Mo_rankOf : MOK M_Mo_rankOf 3 := ⟨(List.mem_of_getElem? (i := 941) (by decide +kernel)), (List.mem_of_getElem? (i := 37) (by decide +kernel)), ⟨by decide +kernel, by decide +kernel⟩, by decide +kernel, Nat.le_of_ble_eq_true rfl⟩
abbrev M_Mo_loops : MD := (⟨"RiverRoadModel", "loops", "(II)I"⟩, prog_14_method_44_code, 5, (Option.some FieldType.int))
theorem mo_Mo_loops : MOK M_Mo_loops 2 := ⟨(List.mem_of_getElem? (i := 945) (by decide +kernel)), (List.mem_of_getElem? (i := 37) (by decide +kernel)), ⟨by decide +kernel, by decide +kernel⟩, by decide +kernel, Nat.le_of_ble_eq_true rfl⟩
abbrev M_Mo_way : MD := (⟨"RiverRoadModel", "way", "(III)I"⟩, prog_14_method_45_code, 9, (Option.some FieldType.int))
theorem mo_Mo_way : MOK M_Mo_way 3 := ⟨(List.mem_of_getElem? (i := 950) (by decide +kernel)), (List.mem_of_getElem? (i := 37) (by decide +kernel)), ⟨by decide +kernel, by decide +kernel⟩, by decide +kernel, Nat.le_of_ble_eq_true rfl⟩
abbrev M_Mo_lands : MD := (⟨"RiverRoadModel", "lands", "(II)I"⟩, prog_14_method_48_code, 3, (Option.some FieldType.int))
theorem mo_Mo_lands : MOK M_Mo_lands 2 := ⟨(List.mem_of_getElem? (i := 954) (by decide +kernel)), (List.mem_of_getElem? (i := 37) (by decide +kernel)), ⟨by decide +kernel, by decide +kernel⟩, by decide +kernel, Nat.le_of_ble_eq_true rfl⟩
abbrev M_Mo_countLands : MD := (⟨"RiverRoadModel", "countLands", "(I)V"⟩, prog_14_method_47_code, 5, (Option.none : Option FieldType))
theorem mo_Mo_countLands : MOK M_Mo_countLands 1 := ⟨(List.mem_of_getElem? (i := 958) (by decide +kernel)), (List.mem_of_getElem? (i := 37) (by decide +kernel)), ⟨by decide +kernel, by decide +kernel⟩, by decide +kernel, Nat.le_of_ble_eq_true rfl⟩
abbrev M_Mo_tellAll : MD := (⟨"RiverRoadModel", "tellAll", "(I)I"⟩, prog_14_method_46_code, 6, (Option.some FieldType.int))
theorem mo_Mo_tellAll : MOK M_Mo_tellAll 1 := ⟨(List.mem_of_getElem? (i := 962) (by decide +kernel)), (List.mem_of_getElem? (i := 37) (by decide +kernel)), ⟨by decide +kernel, by decide +kernel⟩, by decide +kernel, Nat.le_of_ble_eq_true rfl⟩
abbrev M_Mo_unlike : MD := (⟨"RiverRoadModel", "unlike", "(I)I"⟩, prog_14_method_49_code, 9, (Option.some FieldType.int))
theorem mo_Mo_unlike : MOK M_Mo_unlike 1 := ⟨(List.mem_of_getElem? (i := 966) (by decide +kernel)), (List.mem_of_getElem? (i := 37) (by decide +kernel)), ⟨by decide +kernel, by decide +kernel⟩, by decide +kernel, Nat.le_of_ble_eq_true rfl⟩
abbrev M_Mo_sum : MD := (⟨"RiverRoadModel", "sum", "(II)J"⟩, prog_14_method_50_code, 8, (Option.some FieldType.long))
theorem mo_Mo_sum : MOK M_Mo_sum 2 := ⟨(List.mem_of_getElem? (i := 971) (by decide +kernel)), (List.mem_of_getElem? (i := 37) (by decide +kernel)), ⟨by decide +kernel, by decide +kernel⟩, by decide +kernel, Nat.le_of_ble_eq_true rfl⟩
abbrev M_Mo_stamp : MD := (⟨"RiverRoadModel", "stamp", "(II)I"⟩, prog_14_method_51_code, 4, (Option.some FieldType.int))
theorem mo_Mo_stamp : MOK M_Mo_stamp 2 := ⟨(List.mem_of_getElem? (i := 977) (by decide +kernel)), (List.mem_of_getElem? (i := 37) (by decide +kernel)), ⟨by decide +kernel, by decide +kernel⟩, by decide +kernel, Nat.le_of_ble_eq_true rfl⟩
abbrev M_Mo_clash : MD := (⟨"RiverRoadModel", "clash", "(II)I"⟩, prog_14_method_52_code, 5, (Option.some FieldType.int))
theorem mo_Mo_clash : MOK M_Mo_clash 2 := ⟨(List.mem_of_getElem? (i := 981) (by decide +kernel)), (List.mem_of_getElem? (i := 37) (by decide +kernel)), ⟨by decide +kernel, by decide +kernel⟩, by decide +kernel, Nat.le_of_ble_eq_true rfl⟩
abbrev M_Mo_folds : MD := (⟨"RiverRoadModel", "folds", "(I)I"⟩, prog_14_method_55_code, 2, (Option.some FieldType.int))
theorem mo_Mo_folds : MOK M_Mo_folds 1 := ⟨(List.mem_of_getElem? (i := 985) (by decide +kernel)), (List.mem_of_getElem? (i := 37) (by decide +kernel)), ⟨by decide +kernel, by decide +kernel⟩, by decide +kernel, Nat.le_of_ble_eq_true rfl⟩
abbrev M_Mo_goThrough : MD := (⟨"RiverRoadModel", "goThrough", "(II)I"⟩, prog_14_method_54_code, 5, (Option.some FieldType.int))
theorem mo_Mo_goThrough : MOK M_Mo_goThrough 2 := ⟨(List.mem_of_getElem? (i := 989) (by decide +kernel)), (List.mem_of_getElem? (i := 37) (by decide +kernel)), ⟨by decide +kernel, by decide +kernel⟩, by decide +kernel, Nat.le_of_ble_eq_true rfl⟩
abbrev M_Mo_nextOrder : MD := (⟨"RiverRoadModel", "nextOrder", "(I)Z"⟩, prog_14_method_53_code, 7, (Option.some FieldType.boolean))
theorem mo_Mo_nextOrder : MOK M_Mo_nextOrder 1 := ⟨(List.mem_of_getElem? (i := 993) (by decide +kernel)), (List.mem_of_getElem? (i := 37) (by decide +kernel)), ⟨by decide +kernel, by decide +kernel⟩, by decide +kernel, Nat.le_of_ble_eq_true rfl⟩
abbrev M_Mo_nthFold : MD := (⟨"RiverRoadModel", "nthFold", "(III)I"⟩, prog_14_method_56_code, 5, (Option.some FieldType.int))
theorem mo_Mo_nthFold : MOK M_Mo_nthFold 3 := ⟨(List.mem_of_getElem? (i := 997) (by decide +kernel)), (List.mem_of_getElem? (i := 37) (by decide +kernel)), ⟨by decide +kernel, by decide +kernel⟩, by decide +kernel, Nat.le_of_ble_eq_true rfl⟩
abbrev M_Mo_count : MD := (⟨"RiverRoadModel", "count", "(I)I"⟩, prog_14_method_57_code, 5, (Option.some FieldType.int))
theorem mo_Mo_count : MOK M_Mo_count 1 := ⟨(List.mem_of_getElem? (i := 1001) (by decide +kernel)), (List.mem_of_getElem? (i := 37) (by decide +kernel)), ⟨by decide +kernel, by decide +kernel⟩, by decide +kernel, Nat.le_of_ble_eq_true rfl⟩
abbrev M_Mo_status : MD := (⟨"RiverRoadModel", "status", "()I"⟩, prog_14_method_58_code, 1, (Option.some FieldType.int))
theorem mo_Mo_status : MOK M_Mo_status 0 := ⟨(List.mem_of_getElem? (i := 1006) (by decide +kernel)), (List.mem_of_getElem? (i := 37) (by decide +kernel)), ⟨by decide +kernel, by decide +kernel⟩, by decide +kernel, Nat.le_of_ble_eq_true rfl⟩
abbrev M_Law : MD := (⟨"RiverRoadLaw", "law", "([I)Z"⟩, code, 4, (Option.some FieldType.boolean))
theorem ml_Ar_1 : LinkI "RiverRoad$Arches" 1 M_Row_init 2 := ⟨mo_Row_init, rfl, rfl, (List.mem_of_getElem? (i := 193) (by decide +kernel)), (List.mem_of_getElem? (i := 194) (by decide +kernel))⟩
theorem fl_Ar_7_Ar : FL "RiverRoad$Arches" 7 F_Ar 2 := ⟨"RiverRoad$Arches", (List.mem_of_getElem? (i := 200) (by decide +kernel)), Or.inl rfl⟩
theorem ml_Ar_13 : LinkV "RiverRoad$Arches" 13 M_Tr_leave 1 1 2 F_Tr t_Tr := ⟨mo_Tr_leave, cl_Tr, (List.mem_of_getElem? (i := 478) (by decide +kernel)), (List.mem_of_getElem? (i := 461) (by decide +kernel)), (List.mem_of_getElem? (i := 462) (by decide +kernel))⟩
theorem ml_Ar_19 : LinkSU "RiverRoad$Arches" 19 ⟨"RiverRoad$Row", "askMark", "(LRiverRoad$Trace;)I"⟩ "RiverRoad$Thing" M_Th_askMark 1 := ⟨mo_Th_askMark, rfl, by decide +kernel, (List.mem_of_getElem? (i := 526) (by decide +kernel)), (List.mem_of_getElem? (i := 527) (by decide +kernel)), (List.mem_of_getElem? (i := 241) (by decide +kernel)), Or.inr (List.mem_of_getElem? (i := 247) (by decide +kernel)), (List.mem_of_getElem? (i := 521) (by decide +kernel))⟩
theorem ck_Fo_3 : Cond.constant "RiverRoad$Fold" 3 (-1000000 : Int32) ∈ lw_tbl := (List.mem_of_getElem? (i := 398) (by decide +kernel))
theorem ml_Fo_4 : LinkI "RiverRoad$Fold" 4 M_St_init 4 := ⟨mo_St_init, rfl, rfl, (List.mem_of_getElem? (i := 399) (by decide +kernel)), (List.mem_of_getElem? (i := 373) (by decide +kernel))⟩
theorem ml_Fo_10 : LinkV "RiverRoad$Fold" 10 M_Tr_leave 1 1 2 F_Tr t_Tr := ⟨mo_Tr_leave, cl_Tr, (List.mem_of_getElem? (i := 482) (by decide +kernel)), (List.mem_of_getElem? (i := 461) (by decide +kernel)), (List.mem_of_getElem? (i := 462) (by decide +kernel))⟩
theorem ml_Fo_16 : LinkSU "RiverRoad$Fold" 16 ⟨"RiverRoad$Strip", "askWorth", "(LRiverRoad$Trace;)I"⟩ "RiverRoad$Strip" M_St_askWorth 1 := ⟨mo_St_askWorth, rfl, by decide +kernel, (List.mem_of_getElem? (i := 483) (by decide +kernel)), (List.mem_of_getElem? (i := 1007) (by decide +kernel)), (List.mem_of_getElem? (i := 405) (by decide +kernel)), Or.inl rfl, (List.mem_of_getElem? (i := 484) (by decide +kernel))⟩
theorem ml_Fo_20 : LinkSU "RiverRoad$Fold" 20 ⟨"RiverRoad$Strip", "askMark", "(LRiverRoad$Trace;)I"⟩ "RiverRoad$Thing" M_Th_askMark 1 := ⟨mo_Th_askMark, rfl, by decide +kernel, (List.mem_of_getElem? (i := 532) (by decide +kernel)), (List.mem_of_getElem? (i := 533) (by decide +kernel)), (List.mem_of_getElem? (i := 405) (by decide +kernel)), Or.inr (List.mem_of_getElem? (i := 392) (by decide +kernel)), (List.mem_of_getElem? (i := 521) (by decide +kernel))⟩
theorem ml_JA_150 : Cond.methodLink "java/util/Arrays" 150 ⟨"java/lang/System", "arraycopy", "(Ljava/lang/Object;ILjava/lang/Object;II)V"⟩ ∈ lw_tbl := (List.mem_of_getElem? (i := 349) (by decide +kernel))
theorem ml_JA_304 : Cond.methodLink "java/util/Arrays" 304 ⟨"java/lang/Math", "min", "(II)I"⟩ ∈ lw_tbl := (List.mem_of_getElem? (i := 346) (by decide +kernel))
theorem ml_JA_316 : Cond.methodLink "java/util/Arrays" 316 ⟨"[I", "clone", "()Ljava/lang/Object;"⟩ ∈ lw_tbl := (List.mem_of_getElem? (i := 350) (by decide +kernel))
theorem cl_JA_317 : Cond.classLink "java/util/Arrays" 317 "[I" ∈ lw_tbl := (List.mem_of_getElem? (i := 356) (by decide +kernel))
theorem ml_JA_343 : LinkS "java/util/Arrays" 343 M_JA_checkLength 2 := ⟨mo_JA_checkLength, (List.mem_of_getElem? (i := 343) (by decide +kernel)), (List.mem_of_getElem? (i := 344) (by decide +kernel))⟩
theorem ml_JA_351 : LinkS "java/util/Arrays" 351 M_JA_copyOfRangeInt 3 := ⟨mo_JA_copyOfRangeInt, (List.mem_of_getElem? (i := 340) (by decide +kernel)), (List.mem_of_getElem? (i := 341) (by decide +kernel))⟩
theorem ck_JL_314 : Cond.constantLong "java/lang/Long" 314 (6148914691236517205 : Int64) ∈ lw_tbl := (List.mem_of_getElem? (i := 516) (by decide +kernel))
theorem ck_JL_316 : Cond.constantLong "java/lang/Long" 316 (3689348814741910323 : Int64) ∈ lw_tbl := (List.mem_of_getElem? (i := 517) (by decide +kernel))
theorem ck_JL_318 : Cond.constantLong "java/lang/Long" 318 (1085102592571150095 : Int64) ∈ lw_tbl := (List.mem_of_getElem? (i := 518) (by decide +kernel))
theorem fl_La_1_Row : FL "RiverRoad$Land" 1 F_Row 0 := ⟨"RiverRoad$Arches", (List.mem_of_getElem? (i := 207) (by decide +kernel)), Or.inr (List.mem_of_getElem? (i := 208) (by decide +kernel))⟩
theorem fl_La_1_Ar : FL "RiverRoad$Land" 1 F_Ar 0 := ⟨"RiverRoad$Arches", (List.mem_of_getElem? (i := 207) (by decide +kernel)), Or.inr (List.mem_of_getElem? (i := 208) (by decide +kernel))⟩
theorem fl_La_1_La : FL "RiverRoad$Land" 1 F_La 0 := ⟨"RiverRoad$Arches", (List.mem_of_getElem? (i := 207) (by decide +kernel)), Or.inr (List.mem_of_getElem? (i := 208) (by decide +kernel))⟩
theorem fl_La_1_St : FL "RiverRoad$Land" 1 F_St 0 := ⟨"RiverRoad$Arches", (List.mem_of_getElem? (i := 207) (by decide +kernel)), Or.inr (List.mem_of_getElem? (i := 208) (by decide +kernel))⟩
theorem ml_La_7 : LinkI "RiverRoad$Land" 7 M_Th_init 1 := ⟨mo_Th_init, rfl, rfl, (List.mem_of_getElem? (i := 305) (by decide +kernel)), (List.mem_of_getElem? (i := 197) (by decide +kernel))⟩
theorem fl_La_13_La : FL "RiverRoad$Land" 13 F_La 1 := ⟨"RiverRoad$Land", (List.mem_of_getElem? (i := 306) (by decide +kernel)), Or.inl rfl⟩
theorem fl_La_19_La : FL "RiverRoad$Land" 19 F_La 2 := ⟨"RiverRoad$Land", (List.mem_of_getElem? (i := 308) (by decide +kernel)), Or.inl rfl⟩
theorem fl_La_22_La : FL "RiverRoad$Land" 22 F_La 3 := ⟨"RiverRoad$Land", (List.mem_of_getElem? (i := 310) (by decide +kernel)), Or.inl rfl⟩
theorem fl_La_26_La : FL "RiverRoad$Land" 26 F_La 4 := ⟨"RiverRoad$Land", (List.mem_of_getElem? (i := 312) (by decide +kernel)), Or.inl rfl⟩
theorem fl_La_29_Ar : FL "RiverRoad$Land" 29 F_Ar 2 := ⟨"RiverRoad$Arches", (List.mem_of_getElem? (i := 201) (by decide +kernel)), Or.inl rfl⟩
theorem ml_La_32 : LinkV "RiverRoad$Land" 32 M_Tr_leave 1 1 2 F_Tr t_Tr := ⟨mo_Tr_leave, cl_Tr, (List.mem_of_getElem? (i := 460) (by decide +kernel)), (List.mem_of_getElem? (i := 461) (by decide +kernel)), (List.mem_of_getElem? (i := 462) (by decide +kernel))⟩
theorem ml_La_37 : LinkSU "RiverRoad$Land" 37 ⟨"RiverRoad$Thing", "askSize", "(LRiverRoad$Trace;)I"⟩ "RiverRoad$Thing" M_Th_askSize 1 := ⟨mo_Th_askSize, rfl, by decide +kernel, (List.mem_of_getElem? (i := 464) (by decide +kernel)), (List.mem_of_getElem? (i := 454) (by decide +kernel)), (List.mem_of_getElem? (i := 332) (by decide +kernel)), Or.inl rfl, (List.mem_of_getElem? (i := 453) (by decide +kernel))⟩
theorem cl_Law_7 : Cond.classLink "RiverRoadLaw" 7 "RiverRoad" ∈ lw_tbl := (List.mem_of_getElem? (i := 52) (by decide +kernel))
theorem ml_Law_9 : LinkI "RiverRoadLaw" 9 M_RR_init 0 := ⟨mo_RR_init, rfl, rfl, (List.mem_of_getElem? (i := 54) (by decide +kernel)), (List.mem_of_getElem? (i := 55) (by decide +kernel))⟩
theorem cl_Law_10 : Cond.classLink "RiverRoadLaw" 10 "RiverRoadModel" ∈ lw_tbl := (List.mem_of_getElem? (i := 659) (by decide +kernel))
theorem ml_Law_12 : LinkI "RiverRoadLaw" 12 M_Mo_init 0 := ⟨mo_Mo_init, rfl, rfl, (List.mem_of_getElem? (i := 661) (by decide +kernel)), (List.mem_of_getElem? (i := 662) (by decide +kernel))⟩
theorem ml_Law_13 : LinkV "RiverRoadLaw" 13 M_RR_sheet 3 0 7 F_RR t_RR := ⟨mo_RR_sheet, cl_RR, (List.mem_of_getElem? (i := 108) (by decide +kernel)), (List.mem_of_getElem? (i := 109) (by decide +kernel)), (List.mem_of_getElem? (i := 110) (by decide +kernel))⟩
theorem ml_Law_17 : LinkV "RiverRoadLaw" 17 M_Mo_sheet 3 11 34 F_Mo t_Mo := ⟨mo_Mo_sheet, cl_Mo, (List.mem_of_getElem? (i := 768) (by decide +kernel)), (List.mem_of_getElem? (i := 769) (by decide +kernel)), (List.mem_of_getElem? (i := 770) (by decide +kernel))⟩
theorem ml_Law_18 : LinkV "RiverRoadLaw" 18 M_RR_set 3 0 7 F_RR t_RR := ⟨mo_RR_set, cl_RR, (List.mem_of_getElem? (i := 139) (by decide +kernel)), (List.mem_of_getElem? (i := 140) (by decide +kernel)), (List.mem_of_getElem? (i := 141) (by decide +kernel))⟩
theorem ml_Law_21 : LinkV "RiverRoadLaw" 21 M_Mo_set 3 11 34 F_Mo t_Mo := ⟨mo_Mo_set, cl_Mo, (List.mem_of_getElem? (i := 790) (by decide +kernel)), (List.mem_of_getElem? (i := 791) (by decide +kernel)), (List.mem_of_getElem? (i := 792) (by decide +kernel))⟩
theorem ml_Law_22 : LinkV "RiverRoadLaw" 22 M_RR_copy 5 0 7 F_RR t_RR := ⟨mo_RR_copy, cl_RR, (List.mem_of_getElem? (i := 151) (by decide +kernel)), (List.mem_of_getElem? (i := 152) (by decide +kernel)), (List.mem_of_getElem? (i := 153) (by decide +kernel))⟩
theorem ml_Law_26 : LinkV "RiverRoadLaw" 26 M_Mo_copy 5 11 34 F_Mo t_Mo := ⟨mo_Mo_copy, cl_Mo, (List.mem_of_getElem? (i := 794) (by decide +kernel)), (List.mem_of_getElem? (i := 795) (by decide +kernel)), (List.mem_of_getElem? (i := 796) (by decide +kernel))⟩
theorem ml_Law_27 : LinkV "RiverRoadLaw" 27 M_RR_drop 1 0 7 F_RR t_RR := ⟨mo_RR_drop, cl_RR, (List.mem_of_getElem? (i := 158) (by decide +kernel)), (List.mem_of_getElem? (i := 159) (by decide +kernel)), (List.mem_of_getElem? (i := 160) (by decide +kernel))⟩
theorem ml_Law_31 : LinkV "RiverRoadLaw" 31 M_Mo_drop 1 11 34 F_Mo t_Mo := ⟨mo_Mo_drop, cl_Mo, (List.mem_of_getElem? (i := 798) (by decide +kernel)), (List.mem_of_getElem? (i := 799) (by decide +kernel)), (List.mem_of_getElem? (i := 800) (by decide +kernel))⟩
theorem ml_Law_32 : LinkV "RiverRoadLaw" 32 M_RR_row 4 0 7 F_RR t_RR := ⟨mo_RR_row, cl_RR, (List.mem_of_getElem? (i := 162) (by decide +kernel)), (List.mem_of_getElem? (i := 163) (by decide +kernel)), (List.mem_of_getElem? (i := 164) (by decide +kernel))⟩
theorem ml_Law_36 : LinkV "RiverRoadLaw" 36 M_Mo_row 4 11 34 F_Mo t_Mo := ⟨mo_Mo_row, cl_Mo, (List.mem_of_getElem? (i := 802) (by decide +kernel)), (List.mem_of_getElem? (i := 803) (by decide +kernel)), (List.mem_of_getElem? (i := 804) (by decide +kernel))⟩
theorem ml_Law_37 : LinkV "RiverRoadLaw" 37 M_RR_land 3 0 7 F_RR t_RR := ⟨mo_RR_land, cl_RR, (List.mem_of_getElem? (i := 279) (by decide +kernel)), (List.mem_of_getElem? (i := 280) (by decide +kernel)), (List.mem_of_getElem? (i := 281) (by decide +kernel))⟩
theorem ml_Law_40 : LinkV "RiverRoadLaw" 40 M_Mo_land 3 11 34 F_Mo t_Mo := ⟨mo_Mo_land, cl_Mo, (List.mem_of_getElem? (i := 840) (by decide +kernel)), (List.mem_of_getElem? (i := 841) (by decide +kernel)), (List.mem_of_getElem? (i := 842) (by decide +kernel))⟩
theorem ml_Law_41 : LinkV "RiverRoadLaw" 41 M_RR_strip 4 0 7 F_RR t_RR := ⟨mo_RR_strip, cl_RR, (List.mem_of_getElem? (i := 333) (by decide +kernel)), (List.mem_of_getElem? (i := 334) (by decide +kernel)), (List.mem_of_getElem? (i := 335) (by decide +kernel))⟩
theorem ml_Law_44 : LinkV "RiverRoadLaw" 44 M_Mo_strip 4 11 34 F_Mo t_Mo := ⟨mo_Mo_strip, cl_Mo, (List.mem_of_getElem? (i := 851) (by decide +kernel)), (List.mem_of_getElem? (i := 852) (by decide +kernel)), (List.mem_of_getElem? (i := 853) (by decide +kernel))⟩
theorem ml_Law_45 : LinkV "RiverRoadLaw" 45 M_RR_nth 3 0 7 F_RR t_RR := ⟨mo_RR_nth, cl_RR, (List.mem_of_getElem? (i := 406) (by decide +kernel)), (List.mem_of_getElem? (i := 407) (by decide +kernel)), (List.mem_of_getElem? (i := 408) (by decide +kernel))⟩
theorem ml_Law_48 : LinkV "RiverRoadLaw" 48 M_Mo_nth 3 11 34 F_Mo t_Mo := ⟨mo_Mo_nth, cl_Mo, (List.mem_of_getElem? (i := 855) (by decide +kernel)), (List.mem_of_getElem? (i := 856) (by decide +kernel)), (List.mem_of_getElem? (i := 857) (by decide +kernel))⟩
theorem ml_Law_49 : LinkV "RiverRoadLaw" 49 M_RR_turn 2 0 7 F_RR t_RR := ⟨mo_RR_turn, cl_RR, (List.mem_of_getElem? (i := 418) (by decide +kernel)), (List.mem_of_getElem? (i := 419) (by decide +kernel)), (List.mem_of_getElem? (i := 420) (by decide +kernel))⟩
theorem ml_Law_53 : LinkV "RiverRoadLaw" 53 M_Mo_turn 2 11 34 F_Mo t_Mo := ⟨mo_Mo_turn, cl_Mo, (List.mem_of_getElem? (i := 868) (by decide +kernel)), (List.mem_of_getElem? (i := 869) (by decide +kernel)), (List.mem_of_getElem? (i := 870) (by decide +kernel))⟩
theorem ml_Law_54 : LinkV "RiverRoadLaw" 54 M_RR_mirror 2 0 7 F_RR t_RR := ⟨mo_RR_mirror, cl_RR, (List.mem_of_getElem? (i := 422) (by decide +kernel)), (List.mem_of_getElem? (i := 423) (by decide +kernel)), (List.mem_of_getElem? (i := 424) (by decide +kernel))⟩
theorem ml_Law_57 : LinkV "RiverRoadLaw" 57 M_Mo_mirror 2 11 34 F_Mo t_Mo := ⟨mo_Mo_mirror, cl_Mo, (List.mem_of_getElem? (i := 876) (by decide +kernel)), (List.mem_of_getElem? (i := 877) (by decide +kernel)), (List.mem_of_getElem? (i := 878) (by decide +kernel))⟩
theorem ml_Law_58 : LinkV "RiverRoadLaw" 58 M_RR_clear 1 0 7 F_RR t_RR := ⟨mo_RR_clear, cl_RR, (List.mem_of_getElem? (i := 429) (by decide +kernel)), (List.mem_of_getElem? (i := 430) (by decide +kernel)), (List.mem_of_getElem? (i := 431) (by decide +kernel))⟩
theorem ml_Law_61 : LinkV "RiverRoadLaw" 61 M_Mo_clear 1 11 34 F_Mo t_Mo := ⟨mo_Mo_clear, cl_Mo, (List.mem_of_getElem? (i := 884) (by decide +kernel)), (List.mem_of_getElem? (i := 885) (by decide +kernel)), (List.mem_of_getElem? (i := 886) (by decide +kernel))⟩
theorem ml_Law_62 : LinkV "RiverRoadLaw" 62 M_RR_kind 1 0 7 F_RR t_RR := ⟨mo_RR_kind, cl_RR, (List.mem_of_getElem? (i := 433) (by decide +kernel)), (List.mem_of_getElem? (i := 434) (by decide +kernel)), (List.mem_of_getElem? (i := 435) (by decide +kernel))⟩
theorem ml_Law_65 : LinkV "RiverRoadLaw" 65 M_Mo_kind 1 11 34 F_Mo t_Mo := ⟨mo_Mo_kind, cl_Mo, (List.mem_of_getElem? (i := 888) (by decide +kernel)), (List.mem_of_getElem? (i := 889) (by decide +kernel)), (List.mem_of_getElem? (i := 890) (by decide +kernel))⟩
theorem ml_Law_66 : LinkV "RiverRoadLaw" 66 M_RR_is 2 0 7 F_RR t_RR := ⟨mo_RR_is, cl_RR, (List.mem_of_getElem? (i := 437) (by decide +kernel)), (List.mem_of_getElem? (i := 438) (by decide +kernel)), (List.mem_of_getElem? (i := 439) (by decide +kernel))⟩
theorem ml_Law_69 : LinkV "RiverRoadLaw" 69 M_Mo_is 2 11 34 F_Mo t_Mo := ⟨mo_Mo_is, cl_Mo, (List.mem_of_getElem? (i := 892) (by decide +kernel)), (List.mem_of_getElem? (i := 893) (by decide +kernel)), (List.mem_of_getElem? (i := 894) (by decide +kernel))⟩
theorem ml_Law_70 : LinkV "RiverRoadLaw" 70 M_RR_as 2 0 7 F_RR t_RR := ⟨mo_RR_as, cl_RR, (List.mem_of_getElem? (i := 444) (by decide +kernel)), (List.mem_of_getElem? (i := 445) (by decide +kernel)), (List.mem_of_getElem? (i := 446) (by decide +kernel))⟩
theorem ml_Law_73 : LinkV "RiverRoadLaw" 73 M_Mo_as 2 11 34 F_Mo t_Mo := ⟨mo_Mo_as, cl_Mo, (List.mem_of_getElem? (i := 897) (by decide +kernel)), (List.mem_of_getElem? (i := 898) (by decide +kernel)), (List.mem_of_getElem? (i := 899) (by decide +kernel))⟩
theorem ml_Law_74 : LinkV "RiverRoadLaw" 74 M_RR_ask 2 0 7 F_RR t_RR := ⟨mo_RR_ask, cl_RR, (List.mem_of_getElem? (i := 448) (by decide +kernel)), (List.mem_of_getElem? (i := 449) (by decide +kernel)), (List.mem_of_getElem? (i := 450) (by decide +kernel))⟩
theorem ml_Law_77 : LinkV "RiverRoadLaw" 77 M_Mo_ask 2 11 34 F_Mo t_Mo := ⟨mo_Mo_ask, cl_Mo, (List.mem_of_getElem? (i := 901) (by decide +kernel)), (List.mem_of_getElem? (i := 902) (by decide +kernel)), (List.mem_of_getElem? (i := 903) (by decide +kernel))⟩
theorem ml_Law_78 : LinkV "RiverRoadLaw" 78 M_RR_trace 1 0 7 F_RR t_RR := ⟨mo_RR_trace, cl_RR, (List.mem_of_getElem? (i := 550) (by decide +kernel)), (List.mem_of_getElem? (i := 551) (by decide +kernel)), (List.mem_of_getElem? (i := 552) (by decide +kernel))⟩
theorem ml_Law_81 : LinkV "RiverRoadLaw" 81 M_Mo_trace 1 11 34 F_Mo t_Mo := ⟨mo_Mo_trace, cl_Mo, (List.mem_of_getElem? (i := 921) (by decide +kernel)), (List.mem_of_getElem? (i := 922) (by decide +kernel)), (List.mem_of_getElem? (i := 923) (by decide +kernel))⟩
theorem ml_Law_82 : LinkV "RiverRoadLaw" 82 M_RR_sign 2 0 7 F_RR t_RR := ⟨mo_RR_sign, cl_RR, (List.mem_of_getElem? (i := 554) (by decide +kernel)), (List.mem_of_getElem? (i := 555) (by decide +kernel)), (List.mem_of_getElem? (i := 556) (by decide +kernel))⟩
theorem ml_Law_85 : LinkV "RiverRoadLaw" 85 M_Mo_sign 2 11 34 F_Mo t_Mo := ⟨mo_Mo_sign, cl_Mo, (List.mem_of_getElem? (i := 925) (by decide +kernel)), (List.mem_of_getElem? (i := 926) (by decide +kernel)), (List.mem_of_getElem? (i := 927) (by decide +kernel))⟩
theorem ml_Law_86 : LinkV "RiverRoadLaw" 86 M_RR_joined 2 0 7 F_RR t_RR := ⟨mo_RR_joined, cl_RR, (List.mem_of_getElem? (i := 561) (by decide +kernel)), (List.mem_of_getElem? (i := 562) (by decide +kernel)), (List.mem_of_getElem? (i := 563) (by decide +kernel))⟩
theorem ml_Law_89 : LinkV "RiverRoadLaw" 89 M_Mo_joined 2 11 34 F_Mo t_Mo := ⟨mo_Mo_joined, cl_Mo, (List.mem_of_getElem? (i := 929) (by decide +kernel)), (List.mem_of_getElem? (i := 930) (by decide +kernel)), (List.mem_of_getElem? (i := 931) (by decide +kernel))⟩
theorem ml_Law_90 : LinkV "RiverRoadLaw" 90 M_RR_rank 1 0 7 F_RR t_RR := ⟨mo_RR_rank, cl_RR, (List.mem_of_getElem? (i := 565) (by decide +kernel)), (List.mem_of_getElem? (i := 566) (by decide +kernel)), (List.mem_of_getElem? (i := 567) (by decide +kernel))⟩
theorem ml_Law_93 : LinkV "RiverRoadLaw" 93 M_Mo_rank 1 11 34 F_Mo t_Mo := ⟨mo_Mo_rank, cl_Mo, (List.mem_of_getElem? (i := 933) (by decide +kernel)), (List.mem_of_getElem? (i := 934) (by decide +kernel)), (List.mem_of_getElem? (i := 935) (by decide +kernel))⟩
theorem ml_Law_94 : LinkV "RiverRoadLaw" 94 M_RR_loops 2 0 7 F_RR t_RR := ⟨mo_RR_loops, cl_RR, (List.mem_of_getElem? (i := 574) (by decide +kernel)), (List.mem_of_getElem? (i := 575) (by decide +kernel)), (List.mem_of_getElem? (i := 576) (by decide +kernel))⟩
theorem ml_Law_97 : LinkV "RiverRoadLaw" 97 M_Mo_loops 2 11 34 F_Mo t_Mo := ⟨mo_Mo_loops, cl_Mo, (List.mem_of_getElem? (i := 942) (by decide +kernel)), (List.mem_of_getElem? (i := 943) (by decide +kernel)), (List.mem_of_getElem? (i := 944) (by decide +kernel))⟩
theorem ml_Law_98 : LinkV "RiverRoadLaw" 98 M_RR_way 3 0 7 F_RR t_RR := ⟨mo_RR_way, cl_RR, (List.mem_of_getElem? (i := 578) (by decide +kernel)), (List.mem_of_getElem? (i := 579) (by decide +kernel)), (List.mem_of_getElem? (i := 580) (by decide +kernel))⟩
theorem ml_Law_101 : LinkV "RiverRoadLaw" 101 M_Mo_way 3 11 34 F_Mo t_Mo := ⟨mo_Mo_way, cl_Mo, (List.mem_of_getElem? (i := 947) (by decide +kernel)), (List.mem_of_getElem? (i := 948) (by decide +kernel)), (List.mem_of_getElem? (i := 949) (by decide +kernel))⟩
theorem ml_Law_102 : LinkV "RiverRoadLaw" 102 M_RR_lands 2 0 7 F_RR t_RR := ⟨mo_RR_lands, cl_RR, (List.mem_of_getElem? (i := 588) (by decide +kernel)), (List.mem_of_getElem? (i := 589) (by decide +kernel)), (List.mem_of_getElem? (i := 590) (by decide +kernel))⟩
theorem ml_Law_105 : LinkV "RiverRoadLaw" 105 M_Mo_lands 2 11 34 F_Mo t_Mo := ⟨mo_Mo_lands, cl_Mo, (List.mem_of_getElem? (i := 951) (by decide +kernel)), (List.mem_of_getElem? (i := 952) (by decide +kernel)), (List.mem_of_getElem? (i := 953) (by decide +kernel))⟩
theorem ml_Law_106 : LinkV "RiverRoadLaw" 106 M_RR_unlike 1 0 7 F_RR t_RR := ⟨mo_RR_unlike, cl_RR, (List.mem_of_getElem? (i := 597) (by decide +kernel)), (List.mem_of_getElem? (i := 598) (by decide +kernel)), (List.mem_of_getElem? (i := 599) (by decide +kernel))⟩
theorem ml_Law_109 : LinkV "RiverRoadLaw" 109 M_Mo_unlike 1 11 34 F_Mo t_Mo := ⟨mo_Mo_unlike, cl_Mo, (List.mem_of_getElem? (i := 963) (by decide +kernel)), (List.mem_of_getElem? (i := 964) (by decide +kernel)), (List.mem_of_getElem? (i := 965) (by decide +kernel))⟩
theorem ml_Law_110 : LinkV "RiverRoadLaw" 110 M_RR_sum 2 0 7 F_RR t_RR := ⟨mo_RR_sum, cl_RR, (List.mem_of_getElem? (i := 603) (by decide +kernel)), (List.mem_of_getElem? (i := 604) (by decide +kernel)), (List.mem_of_getElem? (i := 605) (by decide +kernel))⟩
theorem ml_Law_114 : LinkV "RiverRoadLaw" 114 M_Mo_sum 2 11 34 F_Mo t_Mo := ⟨mo_Mo_sum, cl_Mo, (List.mem_of_getElem? (i := 968) (by decide +kernel)), (List.mem_of_getElem? (i := 969) (by decide +kernel)), (List.mem_of_getElem? (i := 970) (by decide +kernel))⟩
theorem ml_Law_115 : LinkV "RiverRoadLaw" 115 M_RR_stamp 2 0 7 F_RR t_RR := ⟨mo_RR_stamp, cl_RR, (List.mem_of_getElem? (i := 608) (by decide +kernel)), (List.mem_of_getElem? (i := 609) (by decide +kernel)), (List.mem_of_getElem? (i := 610) (by decide +kernel))⟩
theorem ml_Law_118 : LinkV "RiverRoadLaw" 118 M_Mo_stamp 2 11 34 F_Mo t_Mo := ⟨mo_Mo_stamp, cl_Mo, (List.mem_of_getElem? (i := 974) (by decide +kernel)), (List.mem_of_getElem? (i := 975) (by decide +kernel)), (List.mem_of_getElem? (i := 976) (by decide +kernel))⟩
theorem ml_Law_119 : LinkV "RiverRoadLaw" 119 M_RR_clash 2 0 7 F_RR t_RR := ⟨mo_RR_clash, cl_RR, (List.mem_of_getElem? (i := 612) (by decide +kernel)), (List.mem_of_getElem? (i := 613) (by decide +kernel)), (List.mem_of_getElem? (i := 614) (by decide +kernel))⟩
theorem ml_Law_122 : LinkV "RiverRoadLaw" 122 M_Mo_clash 2 11 34 F_Mo t_Mo := ⟨mo_Mo_clash, cl_Mo, (List.mem_of_getElem? (i := 978) (by decide +kernel)), (List.mem_of_getElem? (i := 979) (by decide +kernel)), (List.mem_of_getElem? (i := 980) (by decide +kernel))⟩
theorem ml_Law_123 : LinkV "RiverRoadLaw" 123 M_RR_folds 1 0 7 F_RR t_RR := ⟨mo_RR_folds, cl_RR, (List.mem_of_getElem? (i := 616) (by decide +kernel)), (List.mem_of_getElem? (i := 617) (by decide +kernel)), (List.mem_of_getElem? (i := 618) (by decide +kernel))⟩
theorem ml_Law_126 : LinkV "RiverRoadLaw" 126 M_Mo_folds 1 11 34 F_Mo t_Mo := ⟨mo_Mo_folds, cl_Mo, (List.mem_of_getElem? (i := 982) (by decide +kernel)), (List.mem_of_getElem? (i := 983) (by decide +kernel)), (List.mem_of_getElem? (i := 984) (by decide +kernel))⟩
theorem ml_Law_127 : LinkV "RiverRoadLaw" 127 M_RR_nthFold 3 0 7 F_RR t_RR := ⟨mo_RR_nthFold, cl_RR, (List.mem_of_getElem? (i := 622) (by decide +kernel)), (List.mem_of_getElem? (i := 623) (by decide +kernel)), (List.mem_of_getElem? (i := 624) (by decide +kernel))⟩
theorem ml_Law_130 : LinkV "RiverRoadLaw" 130 M_Mo_nthFold 3 11 34 F_Mo t_Mo := ⟨mo_Mo_nthFold, cl_Mo, (List.mem_of_getElem? (i := 994) (by decide +kernel)), (List.mem_of_getElem? (i := 995) (by decide +kernel)), (List.mem_of_getElem? (i := 996) (by decide +kernel))⟩
theorem ml_Law_131 : LinkV "RiverRoadLaw" 131 M_RR_count 1 0 7 F_RR t_RR := ⟨mo_RR_count, cl_RR, (List.mem_of_getElem? (i := 648) (by decide +kernel)), (List.mem_of_getElem? (i := 649) (by decide +kernel)), (List.mem_of_getElem? (i := 650) (by decide +kernel))⟩
theorem ml_Law_134 : LinkV "RiverRoadLaw" 134 M_Mo_count 1 11 34 F_Mo t_Mo := ⟨mo_Mo_count, cl_Mo, (List.mem_of_getElem? (i := 998) (by decide +kernel)), (List.mem_of_getElem? (i := 999) (by decide +kernel)), (List.mem_of_getElem? (i := 1000) (by decide +kernel))⟩
theorem ml_Law_135 : LinkV "RiverRoadLaw" 135 M_RR_status 0 0 7 F_RR t_RR := ⟨mo_RR_status, cl_RR, (List.mem_of_getElem? (i := 655) (by decide +kernel)), (List.mem_of_getElem? (i := 656) (by decide +kernel)), (List.mem_of_getElem? (i := 657) (by decide +kernel))⟩
theorem ml_Law_139 : LinkV "RiverRoadLaw" 139 M_Mo_status 0 11 34 F_Mo t_Mo := ⟨mo_Mo_status, cl_Mo, (List.mem_of_getElem? (i := 1003) (by decide +kernel)), (List.mem_of_getElem? (i := 1004) (by decide +kernel)), (List.mem_of_getElem? (i := 1005) (by decide +kernel))⟩
theorem ml_Lo_1 : LinkI "RiverRoad$Loop" 1 M_La_init 4 := ⟨mo_La_init, rfl, rfl, (List.mem_of_getElem? (i := 302) (by decide +kernel)), (List.mem_of_getElem? (i := 303) (by decide +kernel))⟩
theorem ml_Lo_7 : LinkV "RiverRoad$Loop" 7 M_Tr_leave 1 1 2 F_Tr t_Tr := ⟨mo_Tr_leave, cl_Tr, (List.mem_of_getElem? (i := 493) (by decide +kernel)), (List.mem_of_getElem? (i := 461) (by decide +kernel)), (List.mem_of_getElem? (i := 462) (by decide +kernel))⟩
theorem ml_Lo_13 : LinkSU "RiverRoad$Loop" 13 ⟨"RiverRoad$Land", "askWorth", "(LRiverRoad$Trace;)I"⟩ "RiverRoad$Land" M_La_askWorth 1 := ⟨mo_La_askWorth, rfl, by decide +kernel, (List.mem_of_getElem? (i := 494) (by decide +kernel)), (List.mem_of_getElem? (i := 1008) (by decide +kernel)), (List.mem_of_getElem? (i := 323) (by decide +kernel)), Or.inl rfl, (List.mem_of_getElem? (i := 488) (by decide +kernel))⟩
theorem ml_Lo_17_Lo : LinkU "RiverRoad$Loop" 17 ⟨"RiverRoad$Loop", "askSize", "(LRiverRoad$Trace;)I"⟩ "RiverRoad$Land" "RiverRoad$Loop" M_La_askSize 1 8 5 F_La t_La := ⟨mo_La_askSize, cl_Lo, ⟨⟨by decide +kernel, by decide +kernel⟩, by decide +kernel⟩, (List.mem_of_getElem? (i := 495) (by decide +kernel)), (List.mem_of_getElem? (i := 496) (by decide +kernel)), by decide +kernel, (List.mem_of_getElem? (i := 458) (by decide +kernel)), (List.mem_of_getElem? (i := 498) (by decide +kernel))⟩
theorem ml_Mo_1 : Cond.methodLink "RiverRoadModel" 1 ⟨"java/lang/Object", "<init>", "()V"⟩ ∈ lw_tbl := (List.mem_of_getElem? (i := 664) (by decide +kernel))
theorem fl_Mo_7_Mo : FL "RiverRoadModel" 7 F_Mo 0 := ⟨"RiverRoadModel", (List.mem_of_getElem? (i := 665) (by decide +kernel)), Or.inl rfl⟩
theorem fl_Mo_13_Mo : FL "RiverRoadModel" 13 F_Mo 1 := ⟨"RiverRoadModel", (List.mem_of_getElem? (i := 666) (by decide +kernel)), Or.inl rfl⟩
theorem fl_Mo_16_Mo : FL "RiverRoadModel" 16 F_Mo 2 := ⟨"RiverRoadModel", (List.mem_of_getElem? (i := 667) (by decide +kernel)), Or.inl rfl⟩
theorem fl_Mo_19_Mo : FL "RiverRoadModel" 19 F_Mo 3 := ⟨"RiverRoadModel", (List.mem_of_getElem? (i := 668) (by decide +kernel)), Or.inl rfl⟩
theorem fl_Mo_22_Mo : FL "RiverRoadModel" 22 F_Mo 4 := ⟨"RiverRoadModel", (List.mem_of_getElem? (i := 669) (by decide +kernel)), Or.inl rfl⟩
theorem fl_Mo_25_Mo : FL "RiverRoadModel" 25 F_Mo 5 := ⟨"RiverRoadModel", (List.mem_of_getElem? (i := 670) (by decide +kernel)), Or.inl rfl⟩
theorem fl_Mo_28_Mo : FL "RiverRoadModel" 28 F_Mo 6 := ⟨"RiverRoadModel", (List.mem_of_getElem? (i := 671) (by decide +kernel)), Or.inl rfl⟩
theorem fl_Mo_31_Mo : FL "RiverRoadModel" 31 F_Mo 7 := ⟨"RiverRoadModel", (List.mem_of_getElem? (i := 672) (by decide +kernel)), Or.inl rfl⟩
theorem fl_Mo_34_Mo : FL "RiverRoadModel" 34 F_Mo 8 := ⟨"RiverRoadModel", (List.mem_of_getElem? (i := 673) (by decide +kernel)), Or.inl rfl⟩
theorem fl_Mo_37_Mo : FL "RiverRoadModel" 37 F_Mo 9 := ⟨"RiverRoadModel", (List.mem_of_getElem? (i := 674) (by decide +kernel)), Or.inl rfl⟩
theorem fl_Mo_40_Mo : FL "RiverRoadModel" 40 F_Mo 11 := ⟨"RiverRoadModel", (List.mem_of_getElem? (i := 676) (by decide +kernel)), Or.inl rfl⟩
theorem fl_Mo_43_Mo : FL "RiverRoadModel" 43 F_Mo 13 := ⟨"RiverRoadModel", (List.mem_of_getElem? (i := 678) (by decide +kernel)), Or.inl rfl⟩
theorem fl_Mo_46_Mo : FL "RiverRoadModel" 46 F_Mo 14 := ⟨"RiverRoadModel", (List.mem_of_getElem? (i := 679) (by decide +kernel)), Or.inl rfl⟩
theorem fl_Mo_49_Mo : FL "RiverRoadModel" 49 F_Mo 15 := ⟨"RiverRoadModel", (List.mem_of_getElem? (i := 680) (by decide +kernel)), Or.inl rfl⟩
theorem fl_Mo_52_Mo : FL "RiverRoadModel" 52 F_Mo 18 := ⟨"RiverRoadModel", (List.mem_of_getElem? (i := 683) (by decide +kernel)), Or.inl rfl⟩
theorem fl_Mo_56_Mo : FL "RiverRoadModel" 56 F_Mo 19 := ⟨"RiverRoadModel", (List.mem_of_getElem? (i := 684) (by decide +kernel)), Or.inl rfl⟩
theorem fl_Mo_59_Mo : FL "RiverRoadModel" 59 F_Mo 21 := ⟨"RiverRoadModel", (List.mem_of_getElem? (i := 686) (by decide +kernel)), Or.inl rfl⟩
theorem fl_Mo_62_Mo : FL "RiverRoadModel" 62 F_Mo 22 := ⟨"RiverRoadModel", (List.mem_of_getElem? (i := 687) (by decide +kernel)), Or.inl rfl⟩
theorem fl_Mo_65_Mo : FL "RiverRoadModel" 65 F_Mo 24 := ⟨"RiverRoadModel", (List.mem_of_getElem? (i := 688) (by decide +kernel)), Or.inl rfl⟩
theorem fl_Mo_68_Mo : FL "RiverRoadModel" 68 F_Mo 25 := ⟨"RiverRoadModel", (List.mem_of_getElem? (i := 689) (by decide +kernel)), Or.inl rfl⟩
theorem fl_Mo_71_Mo : FL "RiverRoadModel" 71 F_Mo 26 := ⟨"RiverRoadModel", (List.mem_of_getElem? (i := 690) (by decide +kernel)), Or.inl rfl⟩
theorem fl_Mo_74_Mo : FL "RiverRoadModel" 74 F_Mo 27 := ⟨"RiverRoadModel", (List.mem_of_getElem? (i := 691) (by decide +kernel)), Or.inl rfl⟩
theorem fl_Mo_77_Mo : FL "RiverRoadModel" 77 F_Mo 28 := ⟨"RiverRoadModel", (List.mem_of_getElem? (i := 692) (by decide +kernel)), Or.inl rfl⟩
theorem fl_Mo_80_Mo : FL "RiverRoadModel" 80 F_Mo 29 := ⟨"RiverRoadModel", (List.mem_of_getElem? (i := 693) (by decide +kernel)), Or.inl rfl⟩
theorem fl_Mo_83_Mo : FL "RiverRoadModel" 83 F_Mo 30 := ⟨"RiverRoadModel", (List.mem_of_getElem? (i := 694) (by decide +kernel)), Or.inl rfl⟩
theorem fl_Mo_86_Mo : FL "RiverRoadModel" 86 F_Mo 31 := ⟨"RiverRoadModel", (List.mem_of_getElem? (i := 695) (by decide +kernel)), Or.inl rfl⟩
theorem fl_Mo_89_Mo : FL "RiverRoadModel" 89 F_Mo 32 := ⟨"RiverRoadModel", (List.mem_of_getElem? (i := 696) (by decide +kernel)), Or.inl rfl⟩
theorem fl_Mo_92_Mo : FL "RiverRoadModel" 92 F_Mo 33 := ⟨"RiverRoadModel", (List.mem_of_getElem? (i := 697) (by decide +kernel)), Or.inl rfl⟩
theorem fl_Mo_95_Mo : FL "RiverRoadModel" 95 F_Mo 10 := ⟨"RiverRoadModel", (List.mem_of_getElem? (i := 675) (by decide +kernel)), Or.inl rfl⟩
theorem ck_Mo_99 : Cond.constant "RiverRoadModel" 99 (-1000010 : Int32) ∈ lw_tbl := (List.mem_of_getElem? (i := 785) (by decide +kernel))
theorem ck_Mo_100 : Cond.constantLong "RiverRoadModel" 100 (7 : Int64) ∈ lw_tbl := (List.mem_of_getElem? (i := 775) (by decide +kernel))
theorem ml_Mo_102 : LinkS "RiverRoadModel" 102 M_Mo_in 3 := ⟨mo_Mo_in, (List.mem_of_getElem? (i := 776) (by decide +kernel)), (List.mem_of_getElem? (i := 777) (by decide +kernel))⟩
theorem ml_Mo_106 : LinkS "RiverRoadModel" 106 M_Mo_isSheet 1 := ⟨mo_Mo_isSheet, (List.mem_of_getElem? (i := 772) (by decide +kernel)), (List.mem_of_getElem? (i := 773) (by decide +kernel))⟩
theorem ck_Mo_110 : Cond.constantLong "RiverRoadModel" 110 (2 : Int64) ∈ lw_tbl := (List.mem_of_getElem? (i := 779) (by decide +kernel))
theorem ck_Mo_112 : Cond.constant "RiverRoadModel" 112 (-1000001 : Int32) ∈ lw_tbl := (List.mem_of_getElem? (i := 780) (by decide +kernel))
theorem ml_Mo_113 : LinkV "RiverRoadModel" 113 M_Mo_finds 1 11 34 F_Mo t_Mo := ⟨mo_Mo_finds, cl_Mo, (List.mem_of_getElem? (i := 781) (by decide +kernel)), (List.mem_of_getElem? (i := 783) (by decide +kernel)), (List.mem_of_getElem? (i := 11) (by decide +kernel))⟩
theorem ml_Mo_117 : LinkV "RiverRoadModel" 117 M_Mo_well 1 11 34 F_Mo t_Mo := ⟨mo_Mo_well, cl_Mo, (List.mem_of_getElem? (i := 786) (by decide +kernel)), (List.mem_of_getElem? (i := 788) (by decide +kernel)), (List.mem_of_getElem? (i := 12) (by decide +kernel))⟩
theorem ck_Mo_120 : Cond.constantLong "RiverRoadModel" 120 (9 : Int64) ∈ lw_tbl := (List.mem_of_getElem? (i := 809) (by decide +kernel))
theorem ml_Mo_122 : LinkV "RiverRoadModel" 122 M_Mo_joins 4 11 34 F_Mo t_Mo := ⟨mo_Mo_joins, cl_Mo, (List.mem_of_getElem? (i := 819) (by decide +kernel)), (List.mem_of_getElem? (i := 821) (by decide +kernel)), (List.mem_of_getElem? (i := 15) (by decide +kernel))⟩
theorem ml_Mo_126 : LinkV "RiverRoadModel" 126 M_Mo_findLoops 5 11 34 F_Mo t_Mo := ⟨mo_Mo_findLoops, cl_Mo, (List.mem_of_getElem? (i := 827) (by decide +kernel)), (List.mem_of_getElem? (i := 829) (by decide +kernel)), (List.mem_of_getElem? (i := 17) (by decide +kernel))⟩
theorem fl_Mo_130_Mo : FL "RiverRoadModel" 130 F_Mo 16 := ⟨"RiverRoadModel", (List.mem_of_getElem? (i := 681) (by decide +kernel)), Or.inl rfl⟩
theorem fl_Mo_133_Mo : FL "RiverRoadModel" 133 F_Mo 17 := ⟨"RiverRoadModel", (List.mem_of_getElem? (i := 682) (by decide +kernel)), Or.inl rfl⟩
theorem ck_Mo_136 : Cond.constant "RiverRoadModel" 136 (-1000000 : Int32) ∈ lw_tbl := (List.mem_of_getElem? (i := 835) (by decide +kernel))
theorem ml_Mo_137 : LinkV "RiverRoadModel" 137 M_Mo_rowKind 0 11 34 F_Mo t_Mo := ⟨mo_Mo_rowKind, cl_Mo, (List.mem_of_getElem? (i := 815) (by decide +kernel)), (List.mem_of_getElem? (i := 817) (by decide +kernel)), (List.mem_of_getElem? (i := 14) (by decide +kernel))⟩
theorem ml_Mo_141 : LinkV "RiverRoadModel" 141 M_Mo_landLoops 1 11 34 F_Mo t_Mo := ⟨mo_Mo_landLoops, cl_Mo, (List.mem_of_getElem? (i := 823) (by decide +kernel)), (List.mem_of_getElem? (i := 825) (by decide +kernel)), (List.mem_of_getElem? (i := 16) (by decide +kernel))⟩
theorem ml_Mo_144 : LinkV "RiverRoadModel" 144 M_Mo_isFolding 3 11 34 F_Mo t_Mo := ⟨mo_Mo_isFolding, cl_Mo, (List.mem_of_getElem? (i := 831) (by decide +kernel)), (List.mem_of_getElem? (i := 833) (by decide +kernel)), (List.mem_of_getElem? (i := 18) (by decide +kernel))⟩
theorem ml_Mo_148 : LinkV "RiverRoadModel" 148 M_Mo_copyThing 2 11 34 F_Mo t_Mo := ⟨mo_Mo_copyThing, cl_Mo, (List.mem_of_getElem? (i := 836) (by decide +kernel)), (List.mem_of_getElem? (i := 838) (by decide +kernel)), (List.mem_of_getElem? (i := 19) (by decide +kernel))⟩
theorem ml_Mo_152 : LinkS "RiverRoadModel" 152 M_Mo_isPlace 1 := ⟨mo_Mo_isPlace, (List.mem_of_getElem? (i := 806) (by decide +kernel)), (List.mem_of_getElem? (i := 807) (by decide +kernel))⟩
theorem ck_Mo_155 : Cond.constantLong "RiverRoadModel" 155 (20 : Int64) ∈ lw_tbl := (List.mem_of_getElem? (i := 810) (by decide +kernel))
theorem ml_Mo_157 : LinkV "RiverRoadModel" 157 M_Mo_keep 2 11 34 F_Mo t_Mo := ⟨mo_Mo_keep, cl_Mo, (List.mem_of_getElem? (i := 811) (by decide +kernel)), (List.mem_of_getElem? (i := 813) (by decide +kernel)), (List.mem_of_getElem? (i := 13) (by decide +kernel))⟩
theorem ml_Mo_161 : LinkS "RiverRoadModel" 161 M_Mo_isOf 2 := ⟨mo_Mo_isOf, (List.mem_of_getElem? (i := 848) (by decide +kernel)), (List.mem_of_getElem? (i := 849) (by decide +kernel))⟩
theorem ml_Mo_165 : LinkV "RiverRoadModel" 165 M_Mo_refusal 2 11 34 F_Mo t_Mo := ⟨mo_Mo_refusal, cl_Mo, (List.mem_of_getElem? (i := 844) (by decide +kernel)), (List.mem_of_getElem? (i := 846) (by decide +kernel)), (List.mem_of_getElem? (i := 20) (by decide +kernel))⟩
theorem fl_Mo_168_Mo : FL "RiverRoadModel" 168 F_Mo 20 := ⟨"RiverRoadModel", (List.mem_of_getElem? (i := 685) (by decide +kernel)), Or.inl rfl⟩
theorem ml_Mo_172 : LinkV "RiverRoadModel" 172 M_Mo_endsOf 2 11 34 F_Mo t_Mo := ⟨mo_Mo_endsOf, cl_Mo, (List.mem_of_getElem? (i := 864) (by decide +kernel)), (List.mem_of_getElem? (i := 866) (by decide +kernel)), (List.mem_of_getElem? (i := 22) (by decide +kernel))⟩
theorem ck_Mo_175 : Cond.constantLong "RiverRoadModel" 175 (12 : Int64) ∈ lw_tbl := (List.mem_of_getElem? (i := 859) (by decide +kernel))
theorem ml_Mo_177 : LinkV "RiverRoadModel" 177 M_Mo_tell 4 11 34 F_Mo t_Mo := ⟨mo_Mo_tell, cl_Mo, (List.mem_of_getElem? (i := 860) (by decide +kernel)), (List.mem_of_getElem? (i := 862) (by decide +kernel)), (List.mem_of_getElem? (i := 21) (by decide +kernel))⟩
theorem ml_Mo_181 : LinkV "RiverRoadModel" 181 M_Mo_turnTo 5 11 34 F_Mo t_Mo := ⟨mo_Mo_turnTo, cl_Mo, (List.mem_of_getElem? (i := 872) (by decide +kernel)), (List.mem_of_getElem? (i := 874) (by decide +kernel)), (List.mem_of_getElem? (i := 23) (by decide +kernel))⟩
theorem ml_Mo_185 : LinkV "RiverRoadModel" 185 M_Mo_mirrorTo 5 11 34 F_Mo t_Mo := ⟨mo_Mo_mirrorTo, cl_Mo, (List.mem_of_getElem? (i := 880) (by decide +kernel)), (List.mem_of_getElem? (i := 882) (by decide +kernel)), (List.mem_of_getElem? (i := 24) (by decide +kernel))⟩
theorem ck_Mo_188 : Cond.constantLong "RiverRoadModel" 188 (8 : Int64) ∈ lw_tbl := (List.mem_of_getElem? (i := 896) (by decide +kernel))
theorem fl_Mo_190_Mo : FL "RiverRoadModel" 190 F_Mo 12 := ⟨"RiverRoadModel", (List.mem_of_getElem? (i := 677) (by decide +kernel)), Or.inl rfl⟩
theorem ml_Mo_193 : LinkV "RiverRoadModel" 193 M_Mo_begins 1 11 34 F_Mo t_Mo := ⟨mo_Mo_begins, cl_Mo, (List.mem_of_getElem? (i := 909) (by decide +kernel)), (List.mem_of_getElem? (i := 911) (by decide +kernel)), (List.mem_of_getElem? (i := 26) (by decide +kernel))⟩
theorem ml_Mo_197 : LinkV "RiverRoadModel" 197 M_Mo_sizeOf 1 11 34 F_Mo t_Mo := ⟨mo_Mo_sizeOf, cl_Mo, (List.mem_of_getElem? (i := 905) (by decide +kernel)), (List.mem_of_getElem? (i := 907) (by decide +kernel)), (List.mem_of_getElem? (i := 25) (by decide +kernel))⟩
theorem ml_Mo_200 : LinkV "RiverRoadModel" 200 M_Mo_worth 1 11 34 F_Mo t_Mo := ⟨mo_Mo_worth, cl_Mo, (List.mem_of_getElem? (i := 913) (by decide +kernel)), (List.mem_of_getElem? (i := 915) (by decide +kernel)), (List.mem_of_getElem? (i := 27) (by decide +kernel))⟩
theorem ml_Mo_203 : LinkV "RiverRoadModel" 203 M_Mo_mark 1 11 34 F_Mo t_Mo := ⟨mo_Mo_mark, cl_Mo, (List.mem_of_getElem? (i := 917) (by decide +kernel)), (List.mem_of_getElem? (i := 919) (by decide +kernel)), (List.mem_of_getElem? (i := 28) (by decide +kernel))⟩
theorem ck_Mo_206 : Cond.constant "RiverRoadModel" 206 (-1000003 : Int32) ∈ lw_tbl := (List.mem_of_getElem? (i := 937) (by decide +kernel))
theorem ml_Mo_207 : LinkV "RiverRoadModel" 207 M_Mo_rankOf 3 11 34 F_Mo t_Mo := ⟨mo_Mo_rankOf, cl_Mo, (List.mem_of_getElem? (i := 938) (by decide +kernel)), (List.mem_of_getElem? (i := 940) (by decide +kernel)), (List.mem_of_getElem? (i := 29) (by decide +kernel))⟩
theorem ck_Mo_211 : Cond.constantLong "RiverRoadModel" 211 (-1 : Int64) ∈ lw_tbl := (List.mem_of_getElem? (i := 946) (by decide +kernel))
theorem ml_Mo_213 : LinkV "RiverRoadModel" 213 M_Mo_tellAll 1 11 34 F_Mo t_Mo := ⟨mo_Mo_tellAll, cl_Mo, (List.mem_of_getElem? (i := 959) (by decide +kernel)), (List.mem_of_getElem? (i := 961) (by decide +kernel)), (List.mem_of_getElem? (i := 31) (by decide +kernel))⟩
theorem ml_Mo_216 : LinkV "RiverRoadModel" 216 M_Mo_countLands 1 11 34 F_Mo t_Mo := ⟨mo_Mo_countLands, cl_Mo, (List.mem_of_getElem? (i := 955) (by decide +kernel)), (List.mem_of_getElem? (i := 957) (by decide +kernel)), (List.mem_of_getElem? (i := 30) (by decide +kernel))⟩
theorem ck_Mo_219 : Cond.constantLong "RiverRoadModel" 219 (5 : Int64) ∈ lw_tbl := (List.mem_of_getElem? (i := 967) (by decide +kernel))
theorem ck_Mo_221 : Cond.constantLong "RiverRoadModel" 221 (-9 : Int64) ∈ lw_tbl := (List.mem_of_getElem? (i := 972) (by decide +kernel))
theorem ck_Mo_223 : Cond.constantLong "RiverRoadModel" 223 (-1000001 : Int64) ∈ lw_tbl := (List.mem_of_getElem? (i := 973) (by decide +kernel))
theorem ml_Mo_225 : LinkV "RiverRoadModel" 225 M_Mo_nextOrder 1 11 34 F_Mo t_Mo := ⟨mo_Mo_nextOrder, cl_Mo, (List.mem_of_getElem? (i := 990) (by decide +kernel)), (List.mem_of_getElem? (i := 992) (by decide +kernel)), (List.mem_of_getElem? (i := 33) (by decide +kernel))⟩
theorem ml_Mo_228 : LinkV "RiverRoadModel" 228 M_Mo_goThrough 2 11 34 F_Mo t_Mo := ⟨mo_Mo_goThrough, cl_Mo, (List.mem_of_getElem? (i := 986) (by decide +kernel)), (List.mem_of_getElem? (i := 988) (by decide +kernel)), (List.mem_of_getElem? (i := 32) (by decide +kernel))⟩
theorem ck_Mo_231 : Cond.constantLong "RiverRoadModel" 231 (4 : Int64) ∈ lw_tbl := (List.mem_of_getElem? (i := 1002) (by decide +kernel))
theorem ml_Ne_1 : LinkI "RiverRoad$Nest" 1 M_Ar_init 3 := ⟨mo_Ar_init, rfl, rfl, (List.mem_of_getElem? (i := 230) (by decide +kernel)), (List.mem_of_getElem? (i := 191) (by decide +kernel))⟩
theorem ml_Ne_7 : LinkV "RiverRoad$Nest" 7 M_Tr_leave 1 1 2 F_Tr t_Tr := ⟨mo_Tr_leave, cl_Tr, (List.mem_of_getElem? (i := 502) (by decide +kernel)), (List.mem_of_getElem? (i := 461) (by decide +kernel)), (List.mem_of_getElem? (i := 462) (by decide +kernel))⟩
theorem ml_Ne_13 : LinkSU "RiverRoad$Nest" 13 ⟨"RiverRoad$Arches", "askWorth", "(LRiverRoad$Trace;)I"⟩ "RiverRoad$Arches" M_Ar_askWorth 1 := ⟨mo_Ar_askWorth, rfl, by decide +kernel, (List.mem_of_getElem? (i := 503) (by decide +kernel)), (List.mem_of_getElem? (i := 1009) (by decide +kernel)), (List.mem_of_getElem? (i := 234) (by decide +kernel)), Or.inl rfl, (List.mem_of_getElem? (i := 476) (by decide +kernel))⟩
theorem ml_Ne_17_Ne : LinkU "RiverRoad$Nest" 17 ⟨"RiverRoad$Nest", "askSize", "(LRiverRoad$Trace;)I"⟩ "RiverRoad$Thing" "RiverRoad$Nest" M_Th_askSize 1 5 3 F_Ar t_Ar := ⟨mo_Th_askSize, cl_Ne, ⟨⟨by decide +kernel, by decide +kernel⟩, by decide +kernel⟩, (List.mem_of_getElem? (i := 504) (by decide +kernel)), (List.mem_of_getElem? (i := 505) (by decide +kernel)), by decide +kernel, (List.mem_of_getElem? (i := 453) (by decide +kernel)), (List.mem_of_getElem? (i := 507) (by decide +kernel))⟩
theorem ml_Pe_1 : LinkI "RiverRoad$Peaks" 1 M_Ar_init 3 := ⟨mo_Ar_init, rfl, rfl, (List.mem_of_getElem? (i := 190) (by decide +kernel)), (List.mem_of_getElem? (i := 191) (by decide +kernel))⟩
theorem ml_Pe_7 : LinkV "RiverRoad$Peaks" 7 M_Tr_leave 1 1 2 F_Tr t_Tr := ⟨mo_Tr_leave, cl_Tr, (List.mem_of_getElem? (i := 540) (by decide +kernel)), (List.mem_of_getElem? (i := 461) (by decide +kernel)), (List.mem_of_getElem? (i := 462) (by decide +kernel))⟩
theorem ml_Pe_13 : LinkSU "RiverRoad$Peaks" 13 ⟨"RiverRoad$Arches", "askMark", "(LRiverRoad$Trace;)I"⟩ "RiverRoad$Arches" M_Ar_askMark 1 := ⟨mo_Ar_askMark, rfl, by decide +kernel, (List.mem_of_getElem? (i := 541) (by decide +kernel)), (List.mem_of_getElem? (i := 1010) (by decide +kernel)), (List.mem_of_getElem? (i := 224) (by decide +kernel)), Or.inl rfl, (List.mem_of_getElem? (i := 524) (by decide +kernel))⟩
theorem ml_Pe_17_Pe : LinkU "RiverRoad$Peaks" 17 ⟨"RiverRoad$Peaks", "askWorth", "(LRiverRoad$Trace;)I"⟩ "RiverRoad$Arches" "RiverRoad$Peaks" M_Ar_askWorth 1 6 3 F_Ar t_Ar := ⟨mo_Ar_askWorth, cl_Pe, ⟨⟨by decide +kernel, by decide +kernel⟩, by decide +kernel⟩, (List.mem_of_getElem? (i := 542) (by decide +kernel)), (List.mem_of_getElem? (i := 543) (by decide +kernel)), by decide +kernel, (List.mem_of_getElem? (i := 476) (by decide +kernel)), (List.mem_of_getElem? (i := 545) (by decide +kernel))⟩
theorem ml_RR_1 : Cond.methodLink "RiverRoad" 1 ⟨"java/lang/Object", "<init>", "()V"⟩ ∈ lw_tbl := (List.mem_of_getElem? (i := 57) (by decide +kernel))
theorem cl_RR_9 : Cond.classLink "RiverRoad" 9 "RiverRoad$Sheet" ∈ lw_tbl := (List.mem_of_getElem? (i := 60) (by decide +kernel))
theorem fl_RR_11_RR : FL "RiverRoad" 11 F_RR 0 := ⟨"RiverRoad", (List.mem_of_getElem? (i := 86) (by decide +kernel)), Or.inl rfl⟩
theorem cl_RR_15 : Cond.classLink "RiverRoad" 15 "RiverRoad$Thing" ∈ lw_tbl := (List.mem_of_getElem? (i := 62) (by decide +kernel))
theorem fl_RR_17_RR : FL "RiverRoad" 17 F_RR 1 := ⟨"RiverRoad", (List.mem_of_getElem? (i := 87) (by decide +kernel)), Or.inl rfl⟩
theorem cl_RR_21 : Cond.classLink "RiverRoad" 21 "RiverRoad$Trace" ∈ lw_tbl := (List.mem_of_getElem? (i := 64) (by decide +kernel))
theorem fl_RR_24_RR : FL "RiverRoad" 24 F_RR 2 := ⟨"RiverRoad", (List.mem_of_getElem? (i := 88) (by decide +kernel)), Or.inl rfl⟩
theorem ml_RR_28 : LinkS "RiverRoad" 28 M_RR_countEndings 0 := ⟨mo_RR_countEndings, (List.mem_of_getElem? (i := 80) (by decide +kernel)), (List.mem_of_getElem? (i := 81) (by decide +kernel))⟩
theorem fl_RR_32_RR : FL "RiverRoad" 32 F_RR 3 := ⟨"RiverRoad", (List.mem_of_getElem? (i := 89) (by decide +kernel)), Or.inl rfl⟩
theorem fl_RR_36_RR : FL "RiverRoad" 36 F_RR 4 := ⟨"RiverRoad", (List.mem_of_getElem? (i := 90) (by decide +kernel)), Or.inl rfl⟩
theorem fl_RR_39_RR : FL "RiverRoad" 39 F_RR 5 := ⟨"RiverRoad", (List.mem_of_getElem? (i := 91) (by decide +kernel)), Or.inl rfl⟩
theorem fl_RR_42_RR : FL "RiverRoad" 42 F_RR 6 := ⟨"RiverRoad", (List.mem_of_getElem? (i := 92) (by decide +kernel)), Or.inl rfl⟩
theorem ml_RR_46 : LinkS "RiverRoad" 46 M_RR_isSheet 1 := ⟨mo_RR_isSheet, (List.mem_of_getElem? (i := 112) (by decide +kernel)), (List.mem_of_getElem? (i := 113) (by decide +kernel))⟩
theorem ck_RR_50 : Cond.constant "RiverRoad" 50 (-1000001 : Int32) ∈ lw_tbl := (List.mem_of_getElem? (i := 115) (by decide +kernel))
theorem ml_RR_51 : LinkV "RiverRoad" 51 M_RR_found 1 0 7 F_RR t_RR := ⟨mo_RR_found, cl_RR, (List.mem_of_getElem? (i := 116) (by decide +kernel)), (List.mem_of_getElem? (i := 118) (by decide +kernel)), (List.mem_of_getElem? (i := 0) (by decide +kernel))⟩
theorem ml_RR_55 : LinkI "RiverRoad" 55 M_Sh_init 2 := ⟨mo_Sh_init, rfl, rfl, (List.mem_of_getElem? (i := 122) (by decide +kernel)), (List.mem_of_getElem? (i := 123) (by decide +kernel))⟩
theorem ml_RR_58 : LinkV "RiverRoad" 58 M_RR_settled 1 0 7 F_RR t_RR := ⟨mo_RR_settled, cl_RR, (List.mem_of_getElem? (i := 135) (by decide +kernel)), (List.mem_of_getElem? (i := 137) (by decide +kernel)), (List.mem_of_getElem? (i := 1) (by decide +kernel))⟩
theorem ml_RR_61 : LinkV "RiverRoad" 61 M_Sh_holds 2 2 2 F_Sh t_Sh := ⟨mo_Sh_holds, cl_Sh, (List.mem_of_getElem? (i := 143) (by decide +kernel)), (List.mem_of_getElem? (i := 144) (by decide +kernel)), (List.mem_of_getElem? (i := 145) (by decide +kernel))⟩
theorem fl_RR_65_Sh : FL "RiverRoad" 65 F_Sh 1 := ⟨"RiverRoad$Sheet", (List.mem_of_getElem? (i := 129) (by decide +kernel)), Or.inl rfl⟩
theorem ml_RR_68 : LinkV "RiverRoad" 68 M_Sh_cut 1 2 2 F_Sh t_Sh := ⟨mo_Sh_cut, cl_Sh, (List.mem_of_getElem? (i := 147) (by decide +kernel)), (List.mem_of_getElem? (i := 148) (by decide +kernel)), (List.mem_of_getElem? (i := 149) (by decide +kernel))⟩
theorem fl_RR_71_Sh : FL "RiverRoad" 71 F_Sh 0 := ⟨"RiverRoad$Sheet", (List.mem_of_getElem? (i := 127) (by decide +kernel)), Or.inl rfl⟩
theorem ml_RR_74 : Cond.methodLink "RiverRoad" 74 ⟨"java/lang/System", "arraycopy", "(Ljava/lang/Object;ILjava/lang/Object;II)V"⟩ ∈ lw_tbl := (List.mem_of_getElem? (i := 155) (by decide +kernel))
theorem ml_RR_80 : LinkS "RiverRoad" 80 M_RR_isPlace 1 := ⟨mo_RR_isPlace, (List.mem_of_getElem? (i := 166) (by decide +kernel)), (List.mem_of_getElem? (i := 167) (by decide +kernel))⟩
theorem ml_RR_83 : LinkS "RiverRoad" 83 M_RR_rowOf 2 := ⟨mo_RR_rowOf, (List.mem_of_getElem? (i := 169) (by decide +kernel)), (List.mem_of_getElem? (i := 170) (by decide +kernel))⟩
theorem ml_RR_87 : LinkV "RiverRoad" 87 M_RR_shelve 2 0 7 F_RR t_RR := ⟨mo_RR_shelve, cl_RR, (List.mem_of_getElem? (i := 248) (by decide +kernel)), (List.mem_of_getElem? (i := 250) (by decide +kernel)), (List.mem_of_getElem? (i := 2) (by decide +kernel))⟩
theorem cl_RR_91 : Cond.classLink "RiverRoad" 91 "RiverRoad$Arches" ∈ lw_tbl := (List.mem_of_getElem? (i := 235) (by decide +kernel))
theorem ml_RR_93 : LinkV "RiverRoad" 93 M_RR_notThat 1 0 7 F_RR t_RR := ⟨mo_RR_notThat, cl_RR, (List.mem_of_getElem? (i := 283) (by decide +kernel)), (List.mem_of_getElem? (i := 285) (by decide +kernel)), (List.mem_of_getElem? (i := 3) (by decide +kernel))⟩
theorem fl_RR_96_Row : FL "RiverRoad" 96 F_Row 0 := ⟨"RiverRoad$Arches", (List.mem_of_getElem? (i := 210) (by decide +kernel)), Or.inr (List.mem_of_getElem? (i := 208) (by decide +kernel))⟩
theorem fl_RR_96_Ar : FL "RiverRoad" 96 F_Ar 0 := ⟨"RiverRoad$Arches", (List.mem_of_getElem? (i := 210) (by decide +kernel)), Or.inr (List.mem_of_getElem? (i := 208) (by decide +kernel))⟩
theorem fl_RR_96_La : FL "RiverRoad" 96 F_La 0 := ⟨"RiverRoad$Arches", (List.mem_of_getElem? (i := 210) (by decide +kernel)), Or.inr (List.mem_of_getElem? (i := 208) (by decide +kernel))⟩
theorem fl_RR_96_St : FL "RiverRoad" 96 F_St 0 := ⟨"RiverRoad$Arches", (List.mem_of_getElem? (i := 210) (by decide +kernel)), Or.inr (List.mem_of_getElem? (i := 208) (by decide +kernel))⟩
theorem ml_RR_99 : LinkS "RiverRoad" 99 M_RR_landOf 2 := ⟨mo_RR_landOf, (List.mem_of_getElem? (i := 287) (by decide +kernel)), (List.mem_of_getElem? (i := 288) (by decide +kernel))⟩
theorem ml_RR_103 : LinkS "RiverRoad" 103 M_JA_copyOfRange 3 := ⟨mo_JA_copyOfRange, (List.mem_of_getElem? (i := 337) (by decide +kernel)), (List.mem_of_getElem? (i := 338) (by decide +kernel))⟩
theorem ml_RR_109 : LinkS "RiverRoad" 109 M_RR_stripOf 1 := ⟨mo_RR_stripOf, (List.mem_of_getElem? (i := 357) (by decide +kernel)), (List.mem_of_getElem? (i := 358) (by decide +kernel))⟩
theorem ml_RR_113 : LinkV "RiverRoad" 113 M_RR_endingsOf 2 0 7 F_RR t_RR := ⟨mo_RR_endingsOf, cl_RR, (List.mem_of_getElem? (i := 410) (by decide +kernel)), (List.mem_of_getElem? (i := 412) (by decide +kernel)), (List.mem_of_getElem? (i := 4) (by decide +kernel))⟩
theorem ck_RR_117 : Cond.constant "RiverRoad" 117 (-1000000 : Int32) ∈ lw_tbl := (List.mem_of_getElem? (i := 293) (by decide +kernel))
theorem ml_RR_118 : LinkV "RiverRoad" 118 M_RR_plusOfRank 2 0 7 F_RR t_RR := ⟨mo_RR_plusOfRank, cl_RR, (List.mem_of_getElem? (i := 414) (by decide +kernel)), (List.mem_of_getElem? (i := 416) (by decide +kernel)), (List.mem_of_getElem? (i := 5) (by decide +kernel))⟩
theorem ml_RR_122 : LinkS "RiverRoad" 122 M_RR_archesOf 2 := ⟨mo_RR_archesOf, (List.mem_of_getElem? (i := 178) (by decide +kernel)), (List.mem_of_getElem? (i := 179) (by decide +kernel))⟩
theorem fl_RR_126_Row : FL "RiverRoad" 126 F_Row 1 := ⟨"RiverRoad$Arches", (List.mem_of_getElem? (i := 204) (by decide +kernel)), Or.inr (List.mem_of_getElem? (i := 205) (by decide +kernel))⟩
theorem fl_RR_126_Ar : FL "RiverRoad" 126 F_Ar 1 := ⟨"RiverRoad$Arches", (List.mem_of_getElem? (i := 204) (by decide +kernel)), Or.inr (List.mem_of_getElem? (i := 205) (by decide +kernel))⟩
theorem fl_RR_130_Ar : FL "RiverRoad" 130 F_Ar 2 := ⟨"RiverRoad$Arches", (List.mem_of_getElem? (i := 202) (by decide +kernel)), Or.inl rfl⟩
theorem ml_RR_133 : LinkS "RiverRoad" 133 M_RR_mirrored 1 := ⟨mo_RR_mirrored, (List.mem_of_getElem? (i := 426) (by decide +kernel)), (List.mem_of_getElem? (i := 427) (by decide +kernel))⟩
theorem cl_RR_137 : Cond.classLink "RiverRoad" 137 "RiverRoad$Land" ∈ lw_tbl := (List.mem_of_getElem? (i := 324) (by decide +kernel))
theorem fl_RR_139_La : FL "RiverRoad" 139 F_La 1 := ⟨"RiverRoad$Land", (List.mem_of_getElem? (i := 307) (by decide +kernel)), Or.inl rfl⟩
theorem fl_RR_143_La : FL "RiverRoad" 143 F_La 2 := ⟨"RiverRoad$Land", (List.mem_of_getElem? (i := 309) (by decide +kernel)), Or.inl rfl⟩
theorem ml_RR_146_Row : LinkU "RiverRoad" 146 ⟨"RiverRoad$Thing", "told", "()I"⟩ "RiverRoad$Thing" "RiverRoad$Row" M_Row_told 0 3 2 F_Row t_Row := ⟨mo_Row_told, cl_Row, ⟨⟨by decide +kernel, by decide +kernel⟩, by decide +kernel⟩, (List.mem_of_getElem? (i := 252) (by decide +kernel)), (List.mem_of_getElem? (i := 254) (by decide +kernel)), by decide +kernel, (List.mem_of_getElem? (i := 274) (by decide +kernel)), (List.mem_of_getElem? (i := 273) (by decide +kernel))⟩
theorem ml_RR_146_Ar : LinkU "RiverRoad" 146 ⟨"RiverRoad$Thing", "told", "()I"⟩ "RiverRoad$Thing" "RiverRoad$Arches" M_Ar_told 0 4 3 F_Ar t_Ar := ⟨mo_Ar_told, cl_Ar, ⟨⟨by decide +kernel, by decide +kernel⟩, by decide +kernel⟩, (List.mem_of_getElem? (i := 252) (by decide +kernel)), (List.mem_of_getElem? (i := 254) (by decide +kernel)), by decide +kernel, (List.mem_of_getElem? (i := 256) (by decide +kernel)), (List.mem_of_getElem? (i := 255) (by decide +kernel))⟩
theorem ml_RR_146_Ne : LinkU "RiverRoad" 146 ⟨"RiverRoad$Thing", "told", "()I"⟩ "RiverRoad$Thing" "RiverRoad$Nest" M_Ne_told 0 5 3 F_Ar t_Ar := ⟨mo_Ne_told, cl_Ne, ⟨⟨by decide +kernel, by decide +kernel⟩, by decide +kernel⟩, (List.mem_of_getElem? (i := 252) (by decide +kernel)), (List.mem_of_getElem? (i := 254) (by decide +kernel)), by decide +kernel, (List.mem_of_getElem? (i := 268) (by decide +kernel)), (List.mem_of_getElem? (i := 267) (by decide +kernel))⟩
theorem ml_RR_146_Pe : LinkU "RiverRoad" 146 ⟨"RiverRoad$Thing", "told", "()I"⟩ "RiverRoad$Thing" "RiverRoad$Peaks" M_Pe_told 0 6 3 F_Ar t_Ar := ⟨mo_Pe_told, cl_Pe, ⟨⟨by decide +kernel, by decide +kernel⟩, by decide +kernel⟩, (List.mem_of_getElem? (i := 252) (by decide +kernel)), (List.mem_of_getElem? (i := 254) (by decide +kernel)), by decide +kernel, (List.mem_of_getElem? (i := 271) (by decide +kernel)), (List.mem_of_getElem? (i := 270) (by decide +kernel))⟩
theorem ml_RR_146_La : LinkU "RiverRoad" 146 ⟨"RiverRoad$Thing", "told", "()I"⟩ "RiverRoad$Thing" "RiverRoad$Land" M_La_told 0 7 5 F_La t_La := ⟨mo_La_told, cl_La, ⟨⟨by decide +kernel, by decide +kernel⟩, by decide +kernel⟩, (List.mem_of_getElem? (i := 252) (by decide +kernel)), (List.mem_of_getElem? (i := 254) (by decide +kernel)), by decide +kernel, (List.mem_of_getElem? (i := 262) (by decide +kernel)), (List.mem_of_getElem? (i := 261) (by decide +kernel))⟩
theorem ml_RR_146_Lo : LinkU "RiverRoad" 146 ⟨"RiverRoad$Thing", "told", "()I"⟩ "RiverRoad$Thing" "RiverRoad$Loop" M_Lo_told 0 8 5 F_La t_La := ⟨mo_Lo_told, cl_Lo, ⟨⟨by decide +kernel, by decide +kernel⟩, by decide +kernel⟩, (List.mem_of_getElem? (i := 252) (by decide +kernel)), (List.mem_of_getElem? (i := 254) (by decide +kernel)), by decide +kernel, (List.mem_of_getElem? (i := 265) (by decide +kernel)), (List.mem_of_getElem? (i := 264) (by decide +kernel))⟩
theorem ml_RR_146_St : LinkU "RiverRoad" 146 ⟨"RiverRoad$Thing", "told", "()I"⟩ "RiverRoad$Thing" "RiverRoad$Strip" M_St_told 0 9 5 F_St t_St := ⟨mo_St_told, cl_St, ⟨⟨by decide +kernel, by decide +kernel⟩, by decide +kernel⟩, (List.mem_of_getElem? (i := 252) (by decide +kernel)), (List.mem_of_getElem? (i := 254) (by decide +kernel)), by decide +kernel, (List.mem_of_getElem? (i := 277) (by decide +kernel)), (List.mem_of_getElem? (i := 276) (by decide +kernel))⟩
theorem ml_RR_146_Fo : LinkU "RiverRoad" 146 ⟨"RiverRoad$Thing", "told", "()I"⟩ "RiverRoad$Thing" "RiverRoad$Fold" M_Fo_told 0 10 5 F_St t_St := ⟨mo_Fo_told, cl_Fo, ⟨⟨by decide +kernel, by decide +kernel⟩, by decide +kernel⟩, (List.mem_of_getElem? (i := 252) (by decide +kernel)), (List.mem_of_getElem? (i := 254) (by decide +kernel)), by decide +kernel, (List.mem_of_getElem? (i := 259) (by decide +kernel)), (List.mem_of_getElem? (i := 258) (by decide +kernel))⟩
theorem ml_RR_150 : LinkS "RiverRoad" 150 M_RR_isOfKind 2 := ⟨mo_RR_isOfKind, (List.mem_of_getElem? (i := 441) (by decide +kernel)), (List.mem_of_getElem? (i := 442) (by decide +kernel))⟩
theorem fl_RR_154_Row : FL "RiverRoad" 154 F_Row 0 := ⟨"RiverRoad$Thing", (List.mem_of_getElem? (i := 211) (by decide +kernel)), Or.inl rfl⟩
theorem fl_RR_154_Ar : FL "RiverRoad" 154 F_Ar 0 := ⟨"RiverRoad$Thing", (List.mem_of_getElem? (i := 211) (by decide +kernel)), Or.inl rfl⟩
theorem fl_RR_154_La : FL "RiverRoad" 154 F_La 0 := ⟨"RiverRoad$Thing", (List.mem_of_getElem? (i := 211) (by decide +kernel)), Or.inl rfl⟩
theorem fl_RR_154_St : FL "RiverRoad" 154 F_St 0 := ⟨"RiverRoad$Thing", (List.mem_of_getElem? (i := 211) (by decide +kernel)), Or.inl rfl⟩
theorem fl_RR_155_Tr : FL "RiverRoad" 155 F_Tr 1 := ⟨"RiverRoad$Trace", (List.mem_of_getElem? (i := 73) (by decide +kernel)), Or.inl rfl⟩
theorem ml_RR_158_Row : LinkU "RiverRoad" 158 ⟨"RiverRoad$Thing", "askSize", "(LRiverRoad$Trace;)I"⟩ "RiverRoad$Thing" "RiverRoad$Row" M_Th_askSize 1 3 2 F_Row t_Row := ⟨mo_Th_askSize, cl_Row, ⟨⟨by decide +kernel, by decide +kernel⟩, by decide +kernel⟩, (List.mem_of_getElem? (i := 452) (by decide +kernel)), (List.mem_of_getElem? (i := 454) (by decide +kernel)), by decide +kernel, (List.mem_of_getElem? (i := 453) (by decide +kernel)), (List.mem_of_getElem? (i := 468) (by decide +kernel))⟩
theorem ml_RR_158_Ar : LinkU "RiverRoad" 158 ⟨"RiverRoad$Thing", "askSize", "(LRiverRoad$Trace;)I"⟩ "RiverRoad$Thing" "RiverRoad$Arches" M_Th_askSize 1 4 3 F_Ar t_Ar := ⟨mo_Th_askSize, cl_Ar, ⟨⟨by decide +kernel, by decide +kernel⟩, by decide +kernel⟩, (List.mem_of_getElem? (i := 452) (by decide +kernel)), (List.mem_of_getElem? (i := 454) (by decide +kernel)), by decide +kernel, (List.mem_of_getElem? (i := 453) (by decide +kernel)), (List.mem_of_getElem? (i := 455) (by decide +kernel))⟩
theorem ml_RR_158_Ne : LinkU "RiverRoad" 158 ⟨"RiverRoad$Thing", "askSize", "(LRiverRoad$Trace;)I"⟩ "RiverRoad$Thing" "RiverRoad$Nest" M_Th_askSize 1 5 3 F_Ar t_Ar := ⟨mo_Th_askSize, cl_Ne, ⟨⟨by decide +kernel, by decide +kernel⟩, by decide +kernel⟩, (List.mem_of_getElem? (i := 452) (by decide +kernel)), (List.mem_of_getElem? (i := 454) (by decide +kernel)), by decide +kernel, (List.mem_of_getElem? (i := 453) (by decide +kernel)), (List.mem_of_getElem? (i := 466) (by decide +kernel))⟩
theorem ml_RR_158_Pe : LinkU "RiverRoad" 158 ⟨"RiverRoad$Thing", "askSize", "(LRiverRoad$Trace;)I"⟩ "RiverRoad$Thing" "RiverRoad$Peaks" M_Th_askSize 1 6 3 F_Ar t_Ar := ⟨mo_Th_askSize, cl_Pe, ⟨⟨by decide +kernel, by decide +kernel⟩, by decide +kernel⟩, (List.mem_of_getElem? (i := 452) (by decide +kernel)), (List.mem_of_getElem? (i := 454) (by decide +kernel)), by decide +kernel, (List.mem_of_getElem? (i := 453) (by decide +kernel)), (List.mem_of_getElem? (i := 467) (by decide +kernel))⟩
theorem ml_RR_158_La : LinkU "RiverRoad" 158 ⟨"RiverRoad$Thing", "askSize", "(LRiverRoad$Trace;)I"⟩ "RiverRoad$Thing" "RiverRoad$Land" M_La_askSize 1 7 5 F_La t_La := ⟨mo_La_askSize, cl_La, ⟨⟨by decide +kernel, by decide +kernel⟩, by decide +kernel⟩, (List.mem_of_getElem? (i := 452) (by decide +kernel)), (List.mem_of_getElem? (i := 454) (by decide +kernel)), by decide +kernel, (List.mem_of_getElem? (i := 458) (by decide +kernel)), (List.mem_of_getElem? (i := 457) (by decide +kernel))⟩
theorem ml_RR_158_Lo : LinkU "RiverRoad" 158 ⟨"RiverRoad$Thing", "askSize", "(LRiverRoad$Trace;)I"⟩ "RiverRoad$Thing" "RiverRoad$Loop" M_La_askSize 1 8 5 F_La t_La := ⟨mo_La_askSize, cl_Lo, ⟨⟨by decide +kernel, by decide +kernel⟩, by decide +kernel⟩, (List.mem_of_getElem? (i := 452) (by decide +kernel)), (List.mem_of_getElem? (i := 454) (by decide +kernel)), by decide +kernel, (List.mem_of_getElem? (i := 458) (by decide +kernel)), (List.mem_of_getElem? (i := 465) (by decide +kernel))⟩
theorem ml_RR_158_St : LinkU "RiverRoad" 158 ⟨"RiverRoad$Thing", "askSize", "(LRiverRoad$Trace;)I"⟩ "RiverRoad$Thing" "RiverRoad$Strip" M_Th_askSize 1 9 5 F_St t_St := ⟨mo_Th_askSize, cl_St, ⟨⟨by decide +kernel, by decide +kernel⟩, by decide +kernel⟩, (List.mem_of_getElem? (i := 452) (by decide +kernel)), (List.mem_of_getElem? (i := 454) (by decide +kernel)), by decide +kernel, (List.mem_of_getElem? (i := 453) (by decide +kernel)), (List.mem_of_getElem? (i := 469) (by decide +kernel))⟩
theorem ml_RR_158_Fo : LinkU "RiverRoad" 158 ⟨"RiverRoad$Thing", "askSize", "(LRiverRoad$Trace;)I"⟩ "RiverRoad$Thing" "RiverRoad$Fold" M_Th_askSize 1 10 5 F_St t_St := ⟨mo_Th_askSize, cl_Fo, ⟨⟨by decide +kernel, by decide +kernel⟩, by decide +kernel⟩, (List.mem_of_getElem? (i := 452) (by decide +kernel)), (List.mem_of_getElem? (i := 454) (by decide +kernel)), by decide +kernel, (List.mem_of_getElem? (i := 453) (by decide +kernel)), (List.mem_of_getElem? (i := 456) (by decide +kernel))⟩
theorem ml_RR_162_Row : LinkU "RiverRoad" 162 ⟨"RiverRoad$Thing", "askWorth", "(LRiverRoad$Trace;)I"⟩ "RiverRoad$Thing" "RiverRoad$Row" M_Row_askWorth 1 3 2 F_Row t_Row := ⟨mo_Row_askWorth, cl_Row, ⟨⟨by decide +kernel, by decide +kernel⟩, by decide +kernel⟩, (List.mem_of_getElem? (i := 472) (by decide +kernel)), (List.mem_of_getElem? (i := 474) (by decide +kernel)), by decide +kernel, (List.mem_of_getElem? (i := 510) (by decide +kernel)), (List.mem_of_getElem? (i := 509) (by decide +kernel))⟩
theorem ml_RR_162_Ar : LinkU "RiverRoad" 162 ⟨"RiverRoad$Thing", "askWorth", "(LRiverRoad$Trace;)I"⟩ "RiverRoad$Thing" "RiverRoad$Arches" M_Ar_askWorth 1 4 3 F_Ar t_Ar := ⟨mo_Ar_askWorth, cl_Ar, ⟨⟨by decide +kernel, by decide +kernel⟩, by decide +kernel⟩, (List.mem_of_getElem? (i := 472) (by decide +kernel)), (List.mem_of_getElem? (i := 474) (by decide +kernel)), by decide +kernel, (List.mem_of_getElem? (i := 476) (by decide +kernel)), (List.mem_of_getElem? (i := 475) (by decide +kernel))⟩
theorem ml_RR_162_Ne : LinkU "RiverRoad" 162 ⟨"RiverRoad$Thing", "askWorth", "(LRiverRoad$Trace;)I"⟩ "RiverRoad$Thing" "RiverRoad$Nest" M_Ne_askWorth 1 5 3 F_Ar t_Ar := ⟨mo_Ne_askWorth, cl_Ne, ⟨⟨by decide +kernel, by decide +kernel⟩, by decide +kernel⟩, (List.mem_of_getElem? (i := 472) (by decide +kernel)), (List.mem_of_getElem? (i := 474) (by decide +kernel)), by decide +kernel, (List.mem_of_getElem? (i := 500) (by decide +kernel)), (List.mem_of_getElem? (i := 499) (by decide +kernel))⟩
theorem ml_RR_162_Pe : LinkU "RiverRoad" 162 ⟨"RiverRoad$Thing", "askWorth", "(LRiverRoad$Trace;)I"⟩ "RiverRoad$Thing" "RiverRoad$Peaks" M_Ar_askWorth 1 6 3 F_Ar t_Ar := ⟨mo_Ar_askWorth, cl_Pe, ⟨⟨by decide +kernel, by decide +kernel⟩, by decide +kernel⟩, (List.mem_of_getElem? (i := 472) (by decide +kernel)), (List.mem_of_getElem? (i := 474) (by decide +kernel)), by decide +kernel, (List.mem_of_getElem? (i := 476) (by decide +kernel)), (List.mem_of_getElem? (i := 508) (by decide +kernel))⟩
theorem ml_RR_162_La : LinkU "RiverRoad" 162 ⟨"RiverRoad$Thing", "askWorth", "(LRiverRoad$Trace;)I"⟩ "RiverRoad$Thing" "RiverRoad$Land" M_La_askWorth 1 7 5 F_La t_La := ⟨mo_La_askWorth, cl_La, ⟨⟨by decide +kernel, by decide +kernel⟩, by decide +kernel⟩, (List.mem_of_getElem? (i := 472) (by decide +kernel)), (List.mem_of_getElem? (i := 474) (by decide +kernel)), by decide +kernel, (List.mem_of_getElem? (i := 488) (by decide +kernel)), (List.mem_of_getElem? (i := 487) (by decide +kernel))⟩
theorem ml_RR_162_Lo : LinkU "RiverRoad" 162 ⟨"RiverRoad$Thing", "askWorth", "(LRiverRoad$Trace;)I"⟩ "RiverRoad$Thing" "RiverRoad$Loop" M_Lo_askWorth 1 8 5 F_La t_La := ⟨mo_Lo_askWorth, cl_Lo, ⟨⟨by decide +kernel, by decide +kernel⟩, by decide +kernel⟩, (List.mem_of_getElem? (i := 472) (by decide +kernel)), (List.mem_of_getElem? (i := 474) (by decide +kernel)), by decide +kernel, (List.mem_of_getElem? (i := 491) (by decide +kernel)), (List.mem_of_getElem? (i := 490) (by decide +kernel))⟩
theorem ml_RR_162_St : LinkU "RiverRoad" 162 ⟨"RiverRoad$Thing", "askWorth", "(LRiverRoad$Trace;)I"⟩ "RiverRoad$Thing" "RiverRoad$Strip" M_St_askWorth 1 9 5 F_St t_St := ⟨mo_St_askWorth, cl_St, ⟨⟨by decide +kernel, by decide +kernel⟩, by decide +kernel⟩, (List.mem_of_getElem? (i := 472) (by decide +kernel)), (List.mem_of_getElem? (i := 474) (by decide +kernel)), by decide +kernel, (List.mem_of_getElem? (i := 484) (by decide +kernel)), (List.mem_of_getElem? (i := 519) (by decide +kernel))⟩
theorem ml_RR_162_Fo : LinkU "RiverRoad" 162 ⟨"RiverRoad$Thing", "askWorth", "(LRiverRoad$Trace;)I"⟩ "RiverRoad$Thing" "RiverRoad$Fold" M_Fo_askWorth 1 10 5 F_St t_St := ⟨mo_Fo_askWorth, cl_Fo, ⟨⟨by decide +kernel, by decide +kernel⟩, by decide +kernel⟩, (List.mem_of_getElem? (i := 472) (by decide +kernel)), (List.mem_of_getElem? (i := 474) (by decide +kernel)), by decide +kernel, (List.mem_of_getElem? (i := 480) (by decide +kernel)), (List.mem_of_getElem? (i := 479) (by decide +kernel))⟩
theorem ml_RR_165_Row : LinkU "RiverRoad" 165 ⟨"RiverRoad$Thing", "askMark", "(LRiverRoad$Trace;)I"⟩ "RiverRoad$Thing" "RiverRoad$Row" M_Th_askMark 1 3 2 F_Row t_Row := ⟨mo_Th_askMark, cl_Row, ⟨⟨by decide +kernel, by decide +kernel⟩, by decide +kernel⟩, (List.mem_of_getElem? (i := 520) (by decide +kernel)), (List.mem_of_getElem? (i := 522) (by decide +kernel)), by decide +kernel, (List.mem_of_getElem? (i := 521) (by decide +kernel)), (List.mem_of_getElem? (i := 546) (by decide +kernel))⟩
theorem ml_RR_165_Ar : LinkU "RiverRoad" 165 ⟨"RiverRoad$Thing", "askMark", "(LRiverRoad$Trace;)I"⟩ "RiverRoad$Thing" "RiverRoad$Arches" M_Ar_askMark 1 4 3 F_Ar t_Ar := ⟨mo_Ar_askMark, cl_Ar, ⟨⟨by decide +kernel, by decide +kernel⟩, by decide +kernel⟩, (List.mem_of_getElem? (i := 520) (by decide +kernel)), (List.mem_of_getElem? (i := 522) (by decide +kernel)), by decide +kernel, (List.mem_of_getElem? (i := 524) (by decide +kernel)), (List.mem_of_getElem? (i := 523) (by decide +kernel))⟩
theorem ml_RR_165_Ne : LinkU "RiverRoad" 165 ⟨"RiverRoad$Thing", "askMark", "(LRiverRoad$Trace;)I"⟩ "RiverRoad$Thing" "RiverRoad$Nest" M_Ar_askMark 1 5 3 F_Ar t_Ar := ⟨mo_Ar_askMark, cl_Ne, ⟨⟨by decide +kernel, by decide +kernel⟩, by decide +kernel⟩, (List.mem_of_getElem? (i := 520) (by decide +kernel)), (List.mem_of_getElem? (i := 522) (by decide +kernel)), by decide +kernel, (List.mem_of_getElem? (i := 524) (by decide +kernel)), (List.mem_of_getElem? (i := 536) (by decide +kernel))⟩
theorem ml_RR_165_Pe : LinkU "RiverRoad" 165 ⟨"RiverRoad$Thing", "askMark", "(LRiverRoad$Trace;)I"⟩ "RiverRoad$Thing" "RiverRoad$Peaks" M_Pe_askMark 1 6 3 F_Ar t_Ar := ⟨mo_Pe_askMark, cl_Pe, ⟨⟨by decide +kernel, by decide +kernel⟩, by decide +kernel⟩, (List.mem_of_getElem? (i := 520) (by decide +kernel)), (List.mem_of_getElem? (i := 522) (by decide +kernel)), by decide +kernel, (List.mem_of_getElem? (i := 538) (by decide +kernel)), (List.mem_of_getElem? (i := 537) (by decide +kernel))⟩
theorem ml_RR_165_La : LinkU "RiverRoad" 165 ⟨"RiverRoad$Thing", "askMark", "(LRiverRoad$Trace;)I"⟩ "RiverRoad$Thing" "RiverRoad$Land" M_Th_askMark 1 7 5 F_La t_La := ⟨mo_Th_askMark, cl_La, ⟨⟨by decide +kernel, by decide +kernel⟩, by decide +kernel⟩, (List.mem_of_getElem? (i := 520) (by decide +kernel)), (List.mem_of_getElem? (i := 522) (by decide +kernel)), by decide +kernel, (List.mem_of_getElem? (i := 521) (by decide +kernel)), (List.mem_of_getElem? (i := 534) (by decide +kernel))⟩
theorem ml_RR_165_Lo : LinkU "RiverRoad" 165 ⟨"RiverRoad$Thing", "askMark", "(LRiverRoad$Trace;)I"⟩ "RiverRoad$Thing" "RiverRoad$Loop" M_Th_askMark 1 8 5 F_La t_La := ⟨mo_Th_askMark, cl_Lo, ⟨⟨by decide +kernel, by decide +kernel⟩, by decide +kernel⟩, (List.mem_of_getElem? (i := 520) (by decide +kernel)), (List.mem_of_getElem? (i := 522) (by decide +kernel)), by decide +kernel, (List.mem_of_getElem? (i := 521) (by decide +kernel)), (List.mem_of_getElem? (i := 535) (by decide +kernel))⟩
theorem ml_RR_165_St : LinkU "RiverRoad" 165 ⟨"RiverRoad$Thing", "askMark", "(LRiverRoad$Trace;)I"⟩ "RiverRoad$Thing" "RiverRoad$Strip" M_Th_askMark 1 9 5 F_St t_St := ⟨mo_Th_askMark, cl_St, ⟨⟨by decide +kernel, by decide +kernel⟩, by decide +kernel⟩, (List.mem_of_getElem? (i := 520) (by decide +kernel)), (List.mem_of_getElem? (i := 522) (by decide +kernel)), by decide +kernel, (List.mem_of_getElem? (i := 521) (by decide +kernel)), (List.mem_of_getElem? (i := 547) (by decide +kernel))⟩
theorem ml_RR_165_Fo : LinkU "RiverRoad" 165 ⟨"RiverRoad$Thing", "askMark", "(LRiverRoad$Trace;)I"⟩ "RiverRoad$Thing" "RiverRoad$Fold" M_Fo_askMark 1 10 5 F_St t_St := ⟨mo_Fo_askMark, cl_Fo, ⟨⟨by decide +kernel, by decide +kernel⟩, by decide +kernel⟩, (List.mem_of_getElem? (i := 520) (by decide +kernel)), (List.mem_of_getElem? (i := 522) (by decide +kernel)), by decide +kernel, (List.mem_of_getElem? (i := 530) (by decide +kernel)), (List.mem_of_getElem? (i := 529) (by decide +kernel))⟩
theorem fl_RR_168_Tr : FL "RiverRoad" 168 F_Tr 0 := ⟨"RiverRoad$Trace", (List.mem_of_getElem? (i := 71) (by decide +kernel)), Or.inl rfl⟩
theorem cl_RR_171 : Cond.classLink "RiverRoad" 171 "RiverRoad$Row" ∈ lw_tbl := (List.mem_of_getElem? (i := 242) (by decide +kernel))
theorem fl_RR_173_Row : FL "RiverRoad" 173 F_Row 0 := ⟨"RiverRoad$Row", (List.mem_of_getElem? (i := 212) (by decide +kernel)), Or.inr (List.mem_of_getElem? (i := 213) (by decide +kernel))⟩
theorem fl_RR_173_Ar : FL "RiverRoad" 173 F_Ar 0 := ⟨"RiverRoad$Row", (List.mem_of_getElem? (i := 212) (by decide +kernel)), Or.inr (List.mem_of_getElem? (i := 213) (by decide +kernel))⟩
theorem fl_RR_173_La : FL "RiverRoad" 173 F_La 0 := ⟨"RiverRoad$Row", (List.mem_of_getElem? (i := 212) (by decide +kernel)), Or.inr (List.mem_of_getElem? (i := 213) (by decide +kernel))⟩
theorem fl_RR_173_St : FL "RiverRoad" 173 F_St 0 := ⟨"RiverRoad$Row", (List.mem_of_getElem? (i := 212) (by decide +kernel)), Or.inr (List.mem_of_getElem? (i := 213) (by decide +kernel))⟩
theorem ml_RR_174 : LinkS "RiverRoad" 174 M_RR_isCrossing 2 := ⟨mo_RR_isCrossing, (List.mem_of_getElem? (i := 558) (by decide +kernel)), (List.mem_of_getElem? (i := 559) (by decide +kernel))⟩
theorem fl_RR_177_Row : FL "RiverRoad" 177 F_Row 1 := ⟨"RiverRoad$Row", (List.mem_of_getElem? (i := 206) (by decide +kernel)), Or.inl rfl⟩
theorem fl_RR_177_Ar : FL "RiverRoad" 177 F_Ar 1 := ⟨"RiverRoad$Row", (List.mem_of_getElem? (i := 206) (by decide +kernel)), Or.inl rfl⟩
theorem ml_RR_178 : LinkS "RiverRoad" 178 M_RR_isPlus 2 := ⟨mo_RR_isPlus, (List.mem_of_getElem? (i := 175) (by decide +kernel)), (List.mem_of_getElem? (i := 176) (by decide +kernel))⟩
theorem ck_RR_182 : Cond.constant "RiverRoad" 182 (-1000003 : Int32) ∈ lw_tbl := (List.mem_of_getElem? (i := 569) (by decide +kernel))
theorem ml_RR_183 : LinkV "RiverRoad" 183 M_RR_rankOf 1 0 7 F_RR t_RR := ⟨mo_RR_rankOf, cl_RR, (List.mem_of_getElem? (i := 570) (by decide +kernel)), (List.mem_of_getElem? (i := 572) (by decide +kernel)), (List.mem_of_getElem? (i := 6) (by decide +kernel))⟩
theorem fl_RR_187_La : FL "RiverRoad" 187 F_La 4 := ⟨"RiverRoad$Land", (List.mem_of_getElem? (i := 313) (by decide +kernel)), Or.inl rfl⟩
theorem fl_RR_190_Row : FL "RiverRoad" 190 F_Row 0 := ⟨"RiverRoad$Land", (List.mem_of_getElem? (i := 214) (by decide +kernel)), Or.inr (List.mem_of_getElem? (i := 215) (by decide +kernel))⟩
theorem fl_RR_190_Ar : FL "RiverRoad" 190 F_Ar 0 := ⟨"RiverRoad$Land", (List.mem_of_getElem? (i := 214) (by decide +kernel)), Or.inr (List.mem_of_getElem? (i := 215) (by decide +kernel))⟩
theorem fl_RR_190_La : FL "RiverRoad" 190 F_La 0 := ⟨"RiverRoad$Land", (List.mem_of_getElem? (i := 214) (by decide +kernel)), Or.inr (List.mem_of_getElem? (i := 215) (by decide +kernel))⟩
theorem fl_RR_190_St : FL "RiverRoad" 190 F_St 0 := ⟨"RiverRoad$Land", (List.mem_of_getElem? (i := 214) (by decide +kernel)), Or.inr (List.mem_of_getElem? (i := 215) (by decide +kernel))⟩
theorem fl_RR_191_La : FL "RiverRoad" 191 F_La 3 := ⟨"RiverRoad$Land", (List.mem_of_getElem? (i := 311) (by decide +kernel)), Or.inl rfl⟩
theorem ml_RR_194 : LinkV "RiverRoad" 194 M_La_goneOn 2 7 5 F_La t_La := ⟨mo_La_goneOn, cl_La, (List.mem_of_getElem? (i := 582) (by decide +kernel)), (List.mem_of_getElem? (i := 583) (by decide +kernel)), (List.mem_of_getElem? (i := 584) (by decide +kernel))⟩
theorem ml_RR_197 : LinkS "RiverRoad" 197 M_RR_landsOf 2 := ⟨mo_RR_landsOf, (List.mem_of_getElem? (i := 592) (by decide +kernel)), (List.mem_of_getElem? (i := 593) (by decide +kernel))⟩
theorem fs_RR_200 : Cond.fieldLink "RiverRoad" 200 "RiverRoad" "UNLIKE_LOOPS" "[I" ∈ lw_tbl := (List.mem_of_getElem? (i := 601) (by decide +kernel))
theorem ck_RR_203 : Cond.constantLong "RiverRoad" 203 (-1000001 : Int64) ∈ lw_tbl := (List.mem_of_getElem? (i := 607) (by decide +kernel))
theorem cl_RR_205 : Cond.classLink "RiverRoad" 205 "RiverRoad$Strip" ∈ lw_tbl := (List.mem_of_getElem? (i := 370) (by decide +kernel))
theorem fl_RR_207_Row : FL "RiverRoad" 207 F_Row 0 := ⟨"RiverRoad$Strip", (List.mem_of_getElem? (i := 216) (by decide +kernel)), Or.inr (List.mem_of_getElem? (i := 217) (by decide +kernel))⟩
theorem fl_RR_207_Ar : FL "RiverRoad" 207 F_Ar 0 := ⟨"RiverRoad$Strip", (List.mem_of_getElem? (i := 216) (by decide +kernel)), Or.inr (List.mem_of_getElem? (i := 217) (by decide +kernel))⟩
theorem fl_RR_207_La : FL "RiverRoad" 207 F_La 0 := ⟨"RiverRoad$Strip", (List.mem_of_getElem? (i := 216) (by decide +kernel)), Or.inr (List.mem_of_getElem? (i := 217) (by decide +kernel))⟩
theorem fl_RR_207_St : FL "RiverRoad" 207 F_St 0 := ⟨"RiverRoad$Strip", (List.mem_of_getElem? (i := 216) (by decide +kernel)), Or.inr (List.mem_of_getElem? (i := 217) (by decide +kernel))⟩
theorem fl_RR_208_St : FL "RiverRoad" 208 F_St 1 := ⟨"RiverRoad$Strip", (List.mem_of_getElem? (i := 377) (by decide +kernel)), Or.inl rfl⟩
theorem fl_RR_211_St : FL "RiverRoad" 211 F_St 3 := ⟨"RiverRoad$Strip", (List.mem_of_getElem? (i := 380) (by decide +kernel)), Or.inl rfl⟩
theorem fl_RR_214_St : FL "RiverRoad" 214 F_St 4 := ⟨"RiverRoad$Strip", (List.mem_of_getElem? (i := 382) (by decide +kernel)), Or.inl rfl⟩
theorem fs_RR_217 : Cond.fieldLink "RiverRoad" 217 "RiverRoad" "FOLDS_BY_FIRST" "[I" ∈ lw_tbl := (List.mem_of_getElem? (i := 620) (by decide +kernel))
theorem ml_RR_220 : LinkV "RiverRoad" 220 M_RR_seekNthFold 2 0 7 F_RR t_RR := ⟨mo_RR_seekNthFold, cl_RR, (List.mem_of_getElem? (i := 626) (by decide +kernel)), (List.mem_of_getElem? (i := 628) (by decide +kernel)), (List.mem_of_getElem? (i := 7) (by decide +kernel))⟩
theorem ml_RR_223 : LinkS "RiverRoad" 223 M_JA_copyOf 2 := ⟨mo_JA_copyOf, (List.mem_of_getElem? (i := 645) (by decide +kernel)), (List.mem_of_getElem? (i := 646) (by decide +kernel))⟩
theorem ml_RR_227 : LinkS "RiverRoad" 227 M_RR_isCounted 2 := ⟨mo_RR_isCounted, (List.mem_of_getElem? (i := 652) (by decide +kernel)), (List.mem_of_getElem? (i := 653) (by decide +kernel))⟩
theorem ck_RR_230 : Cond.constant "RiverRoad" 230 (-1000010 : Int32) ∈ lw_tbl := (List.mem_of_getElem? (i := 120) (by decide +kernel))
theorem cl_RR_231 : Cond.classLink "RiverRoad" 231 "RiverRoad$Nest" ∈ lw_tbl := (List.mem_of_getElem? (i := 225) (by decide +kernel))
theorem cl_RR_233 : Cond.classLink "RiverRoad" 233 "RiverRoad$Peaks" ∈ lw_tbl := (List.mem_of_getElem? (i := 185) (by decide +kernel))
theorem cl_RR_235 : Cond.classLink "RiverRoad" 235 "RiverRoad$Loop" ∈ lw_tbl := (List.mem_of_getElem? (i := 297) (by decide +kernel))
theorem cl_RR_237 : Cond.classLink "RiverRoad" 237 "RiverRoad$Fold" ∈ lw_tbl := (List.mem_of_getElem? (i := 393) (by decide +kernel))
theorem ml_RR_239 : LinkS "RiverRoad" 239 M_RR_areArches 2 := ⟨mo_RR_areArches, (List.mem_of_getElem? (i := 172) (by decide +kernel)), (List.mem_of_getElem? (i := 173) (by decide +kernel))⟩
theorem ml_RR_243 : LinkI "RiverRoad" 243 M_Row_init 2 := ⟨mo_Row_init, rfl, rfl, (List.mem_of_getElem? (i := 244) (by decide +kernel)), (List.mem_of_getElem? (i := 194) (by decide +kernel))⟩
theorem ml_RR_246 : LinkS "RiverRoad" 246 M_RR_partnersOf 2 := ⟨mo_RR_partnersOf, (List.mem_of_getElem? (i := 181) (by decide +kernel)), (List.mem_of_getElem? (i := 182) (by decide +kernel))⟩
theorem ck_RR_250 : Cond.constantLong "RiverRoad" 250 (366503875925 : Int64) ∈ lw_tbl := (List.mem_of_getElem? (i := 184) (by decide +kernel))
theorem ml_RR_252 : LinkI "RiverRoad" 252 M_Pe_init 3 := ⟨mo_Pe_init, rfl, rfl, (List.mem_of_getElem? (i := 187) (by decide +kernel)), (List.mem_of_getElem? (i := 188) (by decide +kernel))⟩
theorem ml_RR_255 : LinkI "RiverRoad" 255 M_Ne_init 3 := ⟨mo_Ne_init, rfl, rfl, (List.mem_of_getElem? (i := 227) (by decide +kernel)), (List.mem_of_getElem? (i := 228) (by decide +kernel))⟩
theorem ml_RR_256 : LinkI "RiverRoad" 256 M_Ar_init 3 := ⟨mo_Ar_init, rfl, rfl, (List.mem_of_getElem? (i := 237) (by decide +kernel)), (List.mem_of_getElem? (i := 191) (by decide +kernel))⟩
theorem ml_RR_257 : LinkS "RiverRoad" 257 M_RR_endingsAt 2 := ⟨mo_RR_endingsAt, (List.mem_of_getElem? (i := 83) (by decide +kernel)), (List.mem_of_getElem? (i := 84) (by decide +kernel))⟩
theorem ml_RR_260 : LinkS "RiverRoad" 260 M_RR_numberLoops 3 := ⟨mo_RR_numberLoops, (List.mem_of_getElem? (i := 290) (by decide +kernel)), (List.mem_of_getElem? (i := 291) (by decide +kernel))⟩
theorem ml_RR_264 : LinkI "RiverRoad" 264 M_Lo_init 3 := ⟨mo_Lo_init, rfl, rfl, (List.mem_of_getElem? (i := 299) (by decide +kernel)), (List.mem_of_getElem? (i := 300) (by decide +kernel))⟩
theorem ml_RR_267 : LinkI "RiverRoad" 267 M_La_init 4 := ⟨mo_La_init, rfl, rfl, (List.mem_of_getElem? (i := 326) (by decide +kernel)), (List.mem_of_getElem? (i := 303) (by decide +kernel))⟩
theorem ml_RR_270 : LinkS "RiverRoad" 270 M_JA_fill 2 := ⟨mo_JA_fill, (List.mem_of_getElem? (i := 294) (by decide +kernel)), (List.mem_of_getElem? (i := 295) (by decide +kernel))⟩
theorem fs_RR_274 : Cond.fieldLink "RiverRoad" 274 "RiverRoad" "LANDS_BY_LOOPS" "[I" ∈ lw_tbl := (List.mem_of_getElem? (i := 595) (by decide +kernel))
theorem ml_RR_277 : LinkS "RiverRoad" 277 M_RR_firstClashWith 2 := ⟨mo_RR_firstClashWith, (List.mem_of_getElem? (i := 360) (by decide +kernel)), (List.mem_of_getElem? (i := 361) (by decide +kernel))⟩
theorem ml_RR_281 : LinkI "RiverRoad" 281 M_St_init 4 := ⟨mo_St_init, rfl, rfl, (List.mem_of_getElem? (i := 372) (by decide +kernel)), (List.mem_of_getElem? (i := 373) (by decide +kernel))⟩
theorem ml_RR_284 : LinkI "RiverRoad" 284 M_Fo_init 2 := ⟨mo_Fo_init, rfl, rfl, (List.mem_of_getElem? (i := 395) (by decide +kernel)), (List.mem_of_getElem? (i := 396) (by decide +kernel))⟩
theorem ml_RR_287 : Cond.methodLink "RiverRoad" 287 ⟨"java/lang/Math", "min", "(II)I"⟩ ∈ lw_tbl := (List.mem_of_getElem? (i := 363) (by decide +kernel))
theorem ml_RR_292 : Cond.methodLink "RiverRoad" 292 ⟨"java/lang/Math", "max", "(II)I"⟩ ∈ lw_tbl := (List.mem_of_getElem? (i := 364) (by decide +kernel))
theorem ml_RR_295 : LinkS "RiverRoad" 295 M_RR_isBetween 3 := ⟨mo_RR_isBetween, (List.mem_of_getElem? (i := 367) (by decide +kernel)), (List.mem_of_getElem? (i := 368) (by decide +kernel))⟩
theorem ml_RR_299 : LinkV "RiverRoad" 299 M_RR_seekFold 3 0 7 F_RR t_RR := ⟨mo_RR_seekFold, cl_RR, (List.mem_of_getElem? (i := 630) (by decide +kernel)), (List.mem_of_getElem? (i := 632) (by decide +kernel)), (List.mem_of_getElem? (i := 8) (by decide +kernel))⟩
theorem ml_RR_303 : LinkV "RiverRoad" 303 M_RR_fits 3 0 7 F_RR t_RR := ⟨mo_RR_fits, cl_RR, (List.mem_of_getElem? (i := 634) (by decide +kernel)), (List.mem_of_getElem? (i := 636) (by decide +kernel)), (List.mem_of_getElem? (i := 9) (by decide +kernel))⟩
theorem ml_RR_306 : LinkV "RiverRoad" 306 M_RR_closes 4 0 7 F_RR t_RR := ⟨mo_RR_closes, cl_RR, (List.mem_of_getElem? (i := 638) (by decide +kernel)), (List.mem_of_getElem? (i := 640) (by decide +kernel)), (List.mem_of_getElem? (i := 10) (by decide +kernel))⟩
theorem ml_RR_310 : LinkS "RiverRoad" 310 M_RR_mateOf 3 := ⟨mo_RR_mateOf, (List.mem_of_getElem? (i := 642) (by decide +kernel)), (List.mem_of_getElem? (i := 643) (by decide +kernel))⟩
theorem ml_Row_1 : LinkI "RiverRoad$Row" 1 M_Th_init 1 := ⟨mo_Th_init, rfl, rfl, (List.mem_of_getElem? (i := 196) (by decide +kernel)), (List.mem_of_getElem? (i := 197) (by decide +kernel))⟩
theorem fl_Row_7_Row : FL "RiverRoad$Row" 7 F_Row 1 := ⟨"RiverRoad$Row", (List.mem_of_getElem? (i := 203) (by decide +kernel)), Or.inl rfl⟩
theorem fl_Row_7_Ar : FL "RiverRoad$Row" 7 F_Ar 1 := ⟨"RiverRoad$Row", (List.mem_of_getElem? (i := 203) (by decide +kernel)), Or.inl rfl⟩
theorem ml_Row_13 : LinkV "RiverRoad$Row" 13 M_Tr_leave 1 1 2 F_Tr t_Tr := ⟨mo_Tr_leave, cl_Tr, (List.mem_of_getElem? (i := 512) (by decide +kernel)), (List.mem_of_getElem? (i := 461) (by decide +kernel)), (List.mem_of_getElem? (i := 462) (by decide +kernel))⟩
theorem ml_Row_18 : LinkS "RiverRoad$Row" 18 M_JL_bitCount 1 := ⟨mo_JL_bitCount, (List.mem_of_getElem? (i := 513) (by decide +kernel)), (List.mem_of_getElem? (i := 514) (by decide +kernel))⟩
theorem ml_Sh_1 : Cond.methodLink "RiverRoad$Sheet" 1 ⟨"java/lang/Object", "<init>", "()V"⟩ ∈ lw_tbl := (List.mem_of_getElem? (i := 125) (by decide +kernel))
theorem fl_Sh_7_Sh : FL "RiverRoad$Sheet" 7 F_Sh 0 := ⟨"RiverRoad$Sheet", (List.mem_of_getElem? (i := 126) (by decide +kernel)), Or.inl rfl⟩
theorem fl_Sh_13_Sh : FL "RiverRoad$Sheet" 13 F_Sh 1 := ⟨"RiverRoad$Sheet", (List.mem_of_getElem? (i := 128) (by decide +kernel)), Or.inl rfl⟩
theorem ml_St_1 : LinkI "RiverRoad$Strip" 1 M_Th_init 1 := ⟨mo_Th_init, rfl, rfl, (List.mem_of_getElem? (i := 375) (by decide +kernel)), (List.mem_of_getElem? (i := 197) (by decide +kernel))⟩
theorem fl_St_7_St : FL "RiverRoad$Strip" 7 F_St 1 := ⟨"RiverRoad$Strip", (List.mem_of_getElem? (i := 376) (by decide +kernel)), Or.inl rfl⟩
theorem fl_St_13_St : FL "RiverRoad$Strip" 13 F_St 2 := ⟨"RiverRoad$Strip", (List.mem_of_getElem? (i := 378) (by decide +kernel)), Or.inl rfl⟩
theorem fl_St_16_St : FL "RiverRoad$Strip" 16 F_St 3 := ⟨"RiverRoad$Strip", (List.mem_of_getElem? (i := 379) (by decide +kernel)), Or.inl rfl⟩
theorem fl_St_20_St : FL "RiverRoad$Strip" 20 F_St 4 := ⟨"RiverRoad$Strip", (List.mem_of_getElem? (i := 381) (by decide +kernel)), Or.inl rfl⟩
theorem ml_St_23 : LinkV "RiverRoad$Strip" 23 M_Tr_leave 1 1 2 F_Tr t_Tr := ⟨mo_Tr_leave, cl_Tr, (List.mem_of_getElem? (i := 486) (by decide +kernel)), (List.mem_of_getElem? (i := 461) (by decide +kernel)), (List.mem_of_getElem? (i := 462) (by decide +kernel))⟩
theorem ml_Th_1 : Cond.methodLink "RiverRoad$Thing" 1 ⟨"java/lang/Object", "<init>", "()V"⟩ ∈ lw_tbl := (List.mem_of_getElem? (i := 199) (by decide +kernel))
theorem fl_Th_7_Row : FL "RiverRoad$Thing" 7 F_Row 0 := ⟨"RiverRoad$Thing", (List.mem_of_getElem? (i := 209) (by decide +kernel)), Or.inl rfl⟩
theorem fl_Th_7_Ar : FL "RiverRoad$Thing" 7 F_Ar 0 := ⟨"RiverRoad$Thing", (List.mem_of_getElem? (i := 209) (by decide +kernel)), Or.inl rfl⟩
theorem fl_Th_7_La : FL "RiverRoad$Thing" 7 F_La 0 := ⟨"RiverRoad$Thing", (List.mem_of_getElem? (i := 209) (by decide +kernel)), Or.inl rfl⟩
theorem fl_Th_7_St : FL "RiverRoad$Thing" 7 F_St 0 := ⟨"RiverRoad$Thing", (List.mem_of_getElem? (i := 209) (by decide +kernel)), Or.inl rfl⟩
theorem ml_Th_13 : LinkV "RiverRoad$Thing" 13 M_Tr_leave 1 1 2 F_Tr t_Tr := ⟨mo_Tr_leave, cl_Tr, (List.mem_of_getElem? (i := 471) (by decide +kernel)), (List.mem_of_getElem? (i := 461) (by decide +kernel)), (List.mem_of_getElem? (i := 462) (by decide +kernel))⟩
theorem ml_Th_19_Row : LinkU "RiverRoad$Thing" 19 ⟨"RiverRoad$Thing", "askSize", "(LRiverRoad$Trace;)I"⟩ "RiverRoad$Thing" "RiverRoad$Row" M_Th_askSize 1 3 2 F_Row t_Row := ⟨mo_Th_askSize, cl_Row, ⟨⟨by decide +kernel, by decide +kernel⟩, by decide +kernel⟩, (List.mem_of_getElem? (i := 549) (by decide +kernel)), (List.mem_of_getElem? (i := 454) (by decide +kernel)), by decide +kernel, (List.mem_of_getElem? (i := 453) (by decide +kernel)), (List.mem_of_getElem? (i := 468) (by decide +kernel))⟩
theorem ml_Th_19_Ar : LinkU "RiverRoad$Thing" 19 ⟨"RiverRoad$Thing", "askSize", "(LRiverRoad$Trace;)I"⟩ "RiverRoad$Thing" "RiverRoad$Arches" M_Th_askSize 1 4 3 F_Ar t_Ar := ⟨mo_Th_askSize, cl_Ar, ⟨⟨by decide +kernel, by decide +kernel⟩, by decide +kernel⟩, (List.mem_of_getElem? (i := 549) (by decide +kernel)), (List.mem_of_getElem? (i := 454) (by decide +kernel)), by decide +kernel, (List.mem_of_getElem? (i := 453) (by decide +kernel)), (List.mem_of_getElem? (i := 455) (by decide +kernel))⟩
theorem ml_Th_19_Ne : LinkU "RiverRoad$Thing" 19 ⟨"RiverRoad$Thing", "askSize", "(LRiverRoad$Trace;)I"⟩ "RiverRoad$Thing" "RiverRoad$Nest" M_Th_askSize 1 5 3 F_Ar t_Ar := ⟨mo_Th_askSize, cl_Ne, ⟨⟨by decide +kernel, by decide +kernel⟩, by decide +kernel⟩, (List.mem_of_getElem? (i := 549) (by decide +kernel)), (List.mem_of_getElem? (i := 454) (by decide +kernel)), by decide +kernel, (List.mem_of_getElem? (i := 453) (by decide +kernel)), (List.mem_of_getElem? (i := 466) (by decide +kernel))⟩
theorem ml_Th_19_Pe : LinkU "RiverRoad$Thing" 19 ⟨"RiverRoad$Thing", "askSize", "(LRiverRoad$Trace;)I"⟩ "RiverRoad$Thing" "RiverRoad$Peaks" M_Th_askSize 1 6 3 F_Ar t_Ar := ⟨mo_Th_askSize, cl_Pe, ⟨⟨by decide +kernel, by decide +kernel⟩, by decide +kernel⟩, (List.mem_of_getElem? (i := 549) (by decide +kernel)), (List.mem_of_getElem? (i := 454) (by decide +kernel)), by decide +kernel, (List.mem_of_getElem? (i := 453) (by decide +kernel)), (List.mem_of_getElem? (i := 467) (by decide +kernel))⟩
theorem ml_Th_19_La : LinkU "RiverRoad$Thing" 19 ⟨"RiverRoad$Thing", "askSize", "(LRiverRoad$Trace;)I"⟩ "RiverRoad$Thing" "RiverRoad$Land" M_La_askSize 1 7 5 F_La t_La := ⟨mo_La_askSize, cl_La, ⟨⟨by decide +kernel, by decide +kernel⟩, by decide +kernel⟩, (List.mem_of_getElem? (i := 549) (by decide +kernel)), (List.mem_of_getElem? (i := 454) (by decide +kernel)), by decide +kernel, (List.mem_of_getElem? (i := 458) (by decide +kernel)), (List.mem_of_getElem? (i := 457) (by decide +kernel))⟩
theorem ml_Th_19_Lo : LinkU "RiverRoad$Thing" 19 ⟨"RiverRoad$Thing", "askSize", "(LRiverRoad$Trace;)I"⟩ "RiverRoad$Thing" "RiverRoad$Loop" M_La_askSize 1 8 5 F_La t_La := ⟨mo_La_askSize, cl_Lo, ⟨⟨by decide +kernel, by decide +kernel⟩, by decide +kernel⟩, (List.mem_of_getElem? (i := 549) (by decide +kernel)), (List.mem_of_getElem? (i := 454) (by decide +kernel)), by decide +kernel, (List.mem_of_getElem? (i := 458) (by decide +kernel)), (List.mem_of_getElem? (i := 465) (by decide +kernel))⟩
theorem ml_Th_19_St : LinkU "RiverRoad$Thing" 19 ⟨"RiverRoad$Thing", "askSize", "(LRiverRoad$Trace;)I"⟩ "RiverRoad$Thing" "RiverRoad$Strip" M_Th_askSize 1 9 5 F_St t_St := ⟨mo_Th_askSize, cl_St, ⟨⟨by decide +kernel, by decide +kernel⟩, by decide +kernel⟩, (List.mem_of_getElem? (i := 549) (by decide +kernel)), (List.mem_of_getElem? (i := 454) (by decide +kernel)), by decide +kernel, (List.mem_of_getElem? (i := 453) (by decide +kernel)), (List.mem_of_getElem? (i := 469) (by decide +kernel))⟩
theorem ml_Th_19_Fo : LinkU "RiverRoad$Thing" 19 ⟨"RiverRoad$Thing", "askSize", "(LRiverRoad$Trace;)I"⟩ "RiverRoad$Thing" "RiverRoad$Fold" M_Th_askSize 1 10 5 F_St t_St := ⟨mo_Th_askSize, cl_Fo, ⟨⟨by decide +kernel, by decide +kernel⟩, by decide +kernel⟩, (List.mem_of_getElem? (i := 549) (by decide +kernel)), (List.mem_of_getElem? (i := 454) (by decide +kernel)), by decide +kernel, (List.mem_of_getElem? (i := 453) (by decide +kernel)), (List.mem_of_getElem? (i := 456) (by decide +kernel))⟩
theorem ml_Tr_1 : Cond.methodLink "RiverRoad$Trace" 1 ⟨"java/lang/Object", "<init>", "()V"⟩ ∈ lw_tbl := (List.mem_of_getElem? (i := 69) (by decide +kernel))
theorem fl_Tr_7_Tr : FL "RiverRoad$Trace" 7 F_Tr 0 := ⟨"RiverRoad$Trace", (List.mem_of_getElem? (i := 70) (by decide +kernel)), Or.inl rfl⟩
theorem fl_Tr_13_Tr : FL "RiverRoad$Trace" 13 F_Tr 1 := ⟨"RiverRoad$Trace", (List.mem_of_getElem? (i := 72) (by decide +kernel)), Or.inl rfl⟩
theorem nw_RR : Cond.instantiable "RiverRoad" 7 ∈ lw_tbl ∧ Cond.initialized "RiverRoad" ∈ lw_tbl := ⟨(List.mem_of_getElem? (i := 53) (by decide +kernel)), (List.mem_of_getElem? (i := 35) (by decide +kernel))⟩
theorem nw_Tr : Cond.instantiable "RiverRoad$Trace" 2 ∈ lw_tbl ∧ Cond.initialized "RiverRoad$Trace" ∈ lw_tbl := ⟨(List.mem_of_getElem? (i := 65) (by decide +kernel)), (List.mem_of_getElem? (i := 36) (by decide +kernel))⟩
theorem nw_Sh : Cond.instantiable "RiverRoad$Sheet" 2 ∈ lw_tbl ∧ Cond.initialized "RiverRoad$Sheet" ∈ lw_tbl := ⟨(List.mem_of_getElem? (i := 121) (by decide +kernel)), (List.mem_of_getElem? (i := 38) (by decide +kernel))⟩
theorem nw_Row : Cond.instantiable "RiverRoad$Row" 2 ∈ lw_tbl ∧ Cond.initialized "RiverRoad$Row" ∈ lw_tbl := ⟨(List.mem_of_getElem? (i := 243) (by decide +kernel)), (List.mem_of_getElem? (i := 41) (by decide +kernel))⟩
theorem nw_Ar : Cond.instantiable "RiverRoad$Arches" 3 ∈ lw_tbl ∧ Cond.initialized "RiverRoad$Arches" ∈ lw_tbl := ⟨(List.mem_of_getElem? (i := 236) (by decide +kernel)), (List.mem_of_getElem? (i := 42) (by decide +kernel))⟩
theorem nw_Ne : Cond.instantiable "RiverRoad$Nest" 3 ∈ lw_tbl ∧ Cond.initialized "RiverRoad$Nest" ∈ lw_tbl := ⟨(List.mem_of_getElem? (i := 226) (by decide +kernel)), (List.mem_of_getElem? (i := 44) (by decide +kernel))⟩
theorem nw_Pe : Cond.instantiable "RiverRoad$Peaks" 3 ∈ lw_tbl ∧ Cond.initialized "RiverRoad$Peaks" ∈ lw_tbl := ⟨(List.mem_of_getElem? (i := 186) (by decide +kernel)), (List.mem_of_getElem? (i := 43) (by decide +kernel))⟩
theorem nw_La : Cond.instantiable "RiverRoad$Land" 5 ∈ lw_tbl ∧ Cond.initialized "RiverRoad$Land" ∈ lw_tbl := ⟨(List.mem_of_getElem? (i := 325) (by decide +kernel)), (List.mem_of_getElem? (i := 46) (by decide +kernel))⟩
theorem nw_Lo : Cond.instantiable "RiverRoad$Loop" 5 ∈ lw_tbl ∧ Cond.initialized "RiverRoad$Loop" ∈ lw_tbl := ⟨(List.mem_of_getElem? (i := 298) (by decide +kernel)), (List.mem_of_getElem? (i := 47) (by decide +kernel))⟩
theorem nw_St : Cond.instantiable "RiverRoad$Strip" 5 ∈ lw_tbl ∧ Cond.initialized "RiverRoad$Strip" ∈ lw_tbl := ⟨(List.mem_of_getElem? (i := 371) (by decide +kernel)), (List.mem_of_getElem? (i := 49) (by decide +kernel))⟩
theorem nw_Fo : Cond.instantiable "RiverRoad$Fold" 5 ∈ lw_tbl ∧ Cond.initialized "RiverRoad$Fold" ∈ lw_tbl := ⟨(List.mem_of_getElem? (i := 394) (by decide +kernel)), (List.mem_of_getElem? (i := 50) (by decide +kernel))⟩
theorem nw_Mo : Cond.instantiable "RiverRoadModel" 34 ∈ lw_tbl ∧ Cond.initialized "RiverRoadModel" ∈ lw_tbl := ⟨(List.mem_of_getElem? (i := 660) (by decide +kernel)), (List.mem_of_getElem? (i := 37) (by decide +kernel))⟩
end
section
/-! DECODE ROWS, printed by wip/whole/gen/tables.py -/
theorem d_RR_init_0 : decode prog_1_method_1_code 0 = .ok (.aload_n 0, 1) := by decide +kernel
theorem d_RR_init_1 : decode prog_1_method_1_code 1 = .ok (.invokespecial 1, 3) := by decide +kernel
theorem d_RR_init_4 : decode prog_1_method_1_code 4 = .ok (.aload_n 0, 1) := by decide +kernel
theorem d_RR_init_5 : decode prog_1_method_1_code 5 = .ok (.bipush 8, 2) := by decide +kernel
theorem d_RR_init_7 : decode prog_1_method_1_code 7 = .ok (.anewarray 9, 3) := by decide +kernel
theorem d_RR_init_10 : decode prog_1_method_1_code 10 = .ok (.putfield 11, 3) := by decide +kernel
theorem d_RR_init_13 : decode prog_1_method_1_code 13 = .ok (.aload_n 0, 1) := by decide +kernel
theorem d_RR_init_14 : decode prog_1_method_1_code 14 = .ok (.bipush 10, 2) := by decide +kernel
theorem d_RR_init_16 : decode prog_1_method_1_code 16 = .ok (.anewarray 15, 3) := by decide +kernel
theorem d_RR_init_19 : decode prog_1_method_1_code 19 = .ok (.putfield 17, 3) := by decide +kernel
theorem d_RR_init_22 : decode prog_1_method_1_code 22 = .ok (.aload_n 0, 1) := by decide +kernel
theorem d_RR_init_23 : decode prog_1_method_1_code 23 = .ok (.new 21, 3) := by decide +kernel
theorem d_RR_init_26 : decode prog_1_method_1_code 26 = .ok (.dup, 1) := by decide +kernel
theorem d_RR_init_27 : decode prog_1_method_1_code 27 = .ok (.invokespecial 23, 3) := by decide +kernel
theorem d_RR_init_30 : decode prog_1_method_1_code 30 = .ok (.putfield 24, 3) := by decide +kernel
theorem d_RR_init_33 : decode prog_1_method_1_code 33 = .ok (.aload_n 0, 1) := by decide +kernel
theorem d_RR_init_34 : decode prog_1_method_1_code 34 = .ok (.invokestatic 28, 3) := by decide +kernel
theorem d_RR_init_37 : decode prog_1_method_1_code 37 = .ok (.putfield 32, 3) := by decide +kernel
theorem d_RR_init_40 : decode prog_1_method_1_code 40 = .ok (.aload_n 0, 1) := by decide +kernel
theorem d_RR_init_41 : decode prog_1_method_1_code 41 = .ok (.bipush 8, 2) := by decide +kernel
theorem d_RR_init_43 : decode prog_1_method_1_code 43 = .ok (.newarray .int, 2) := by decide +kernel
theorem d_RR_init_45 : decode prog_1_method_1_code 45 = .ok (.putfield 36, 3) := by decide +kernel
theorem d_RR_init_48 : decode prog_1_method_1_code 48 = .ok (.aload_n 0, 1) := by decide +kernel
theorem d_RR_init_49 : decode prog_1_method_1_code 49 = .ok (.bipush 8, 2) := by decide +kernel
theorem d_RR_init_51 : decode prog_1_method_1_code 51 = .ok (.newarray .int, 2) := by decide +kernel
theorem d_RR_init_53 : decode prog_1_method_1_code 53 = .ok (.putfield 39, 3) := by decide +kernel
theorem d_RR_init_56 : decode prog_1_method_1_code 56 = .ok (.aload_n 0, 1) := by decide +kernel
theorem d_RR_init_57 : decode prog_1_method_1_code 57 = .ok (.iconst 0, 1) := by decide +kernel
theorem d_RR_init_58 : decode prog_1_method_1_code 58 = .ok (.putfield 42, 3) := by decide +kernel
theorem d_RR_init_61 : decode prog_1_method_1_code 61 = .ok (.return_, 1) := by decide +kernel
theorem d_Tr_init_0 : decode prog_12_method_1_code 0 = .ok (.aload_n 0, 1) := by decide +kernel
theorem d_Tr_init_1 : decode prog_12_method_1_code 1 = .ok (.invokespecial 1, 3) := by decide +kernel
theorem d_Tr_init_4 : decode prog_12_method_1_code 4 = .ok (.aload_n 0, 1) := by decide +kernel
theorem d_Tr_init_5 : decode prog_12_method_1_code 5 = .ok (.bipush 16, 2) := by decide +kernel
theorem d_Tr_init_7 : decode prog_12_method_1_code 7 = .ok (.newarray .int, 2) := by decide +kernel
theorem d_Tr_init_9 : decode prog_12_method_1_code 9 = .ok (.putfield 7, 3) := by decide +kernel
theorem d_Tr_init_12 : decode prog_12_method_1_code 12 = .ok (.aload_n 0, 1) := by decide +kernel
theorem d_Tr_init_13 : decode prog_12_method_1_code 13 = .ok (.iconst 0, 1) := by decide +kernel
theorem d_Tr_init_14 : decode prog_12_method_1_code 14 = .ok (.putfield 13, 3) := by decide +kernel
theorem d_Tr_init_17 : decode prog_12_method_1_code 17 = .ok (.return_, 1) := by decide +kernel
theorem d_RR_countEndings_0 : decode prog_1_method_47_code 0 = .ok (.sipush 169, 3) := by decide +kernel
theorem d_RR_countEndings_3 : decode prog_1_method_47_code 3 = .ok (.newarray .int, 2) := by decide +kernel
theorem d_RR_countEndings_5 : decode prog_1_method_47_code 5 = .ok (.astore_n 0, 1) := by decide +kernel
theorem d_RR_countEndings_6 : decode prog_1_method_47_code 6 = .ok (.iconst 0, 1) := by decide +kernel
theorem d_RR_countEndings_7 : decode prog_1_method_47_code 7 = .ok (.istore_n 1, 1) := by decide +kernel
theorem d_RR_countEndings_8 : decode prog_1_method_47_code 8 = .ok (.iload_n 1, 1) := by decide +kernel
theorem d_RR_countEndings_9 : decode prog_1_method_47_code 9 = .ok (.bipush 12, 2) := by decide +kernel
theorem d_RR_countEndings_11 : decode prog_1_method_47_code 11 = .ok (.if_icmp .gt 67, 3) := by decide +kernel
theorem d_RR_countEndings_14 : decode prog_1_method_47_code 14 = .ok (.aload_n 0, 1) := by decide +kernel
theorem d_RR_countEndings_15 : decode prog_1_method_47_code 15 = .ok (.iconst 0, 1) := by decide +kernel
theorem d_RR_countEndings_16 : decode prog_1_method_47_code 16 = .ok (.iload_n 1, 1) := by decide +kernel
theorem d_RR_countEndings_17 : decode prog_1_method_47_code 17 = .ok (.invokestatic 257, 3) := by decide +kernel
theorem d_RR_countEndings_20 : decode prog_1_method_47_code 20 = .ok (.iconst 1, 1) := by decide +kernel
theorem d_RR_countEndings_21 : decode prog_1_method_47_code 21 = .ok (.iastore, 1) := by decide +kernel
theorem d_RR_countEndings_22 : decode prog_1_method_47_code 22 = .ok (.iconst 1, 1) := by decide +kernel
theorem d_RR_countEndings_23 : decode prog_1_method_47_code 23 = .ok (.istore_n 2, 1) := by decide +kernel
theorem d_RR_countEndings_24 : decode prog_1_method_47_code 24 = .ok (.iload_n 2, 1) := by decide +kernel
theorem d_RR_countEndings_25 : decode prog_1_method_47_code 25 = .ok (.iload_n 1, 1) := by decide +kernel
theorem d_RR_countEndings_26 : decode prog_1_method_47_code 26 = .ok (.if_icmp .gt 46, 3) := by decide +kernel
theorem d_RR_countEndings_29 : decode prog_1_method_47_code 29 = .ok (.iload_n 2, 1) := by decide +kernel
theorem d_RR_countEndings_30 : decode prog_1_method_47_code 30 = .ok (.iload_n 1, 1) := by decide +kernel
theorem d_RR_countEndings_31 : decode prog_1_method_47_code 31 = .ok (.if_icmp .ge 15, 3) := by decide +kernel
theorem d_RR_countEndings_34 : decode prog_1_method_47_code 34 = .ok (.aload_n 0, 1) := by decide +kernel
theorem d_RR_countEndings_35 : decode prog_1_method_47_code 35 = .ok (.iload_n 2, 1) := by decide +kernel
theorem d_RR_countEndings_36 : decode prog_1_method_47_code 36 = .ok (.iload_n 1, 1) := by decide +kernel
theorem d_RR_countEndings_37 : decode prog_1_method_47_code 37 = .ok (.iconst 1, 1) := by decide +kernel
theorem d_RR_countEndings_38 : decode prog_1_method_47_code 38 = .ok (.isub, 1) := by decide +kernel
theorem d_RR_countEndings_39 : decode prog_1_method_47_code 39 = .ok (.invokestatic 257, 3) := by decide +kernel
theorem d_RR_countEndings_42 : decode prog_1_method_47_code 42 = .ok (.iaload, 1) := by decide +kernel
theorem d_RR_countEndings_43 : decode prog_1_method_47_code 43 = .ok (.goto 4, 3) := by decide +kernel
theorem d_RR_countEndings_46 : decode prog_1_method_47_code 46 = .ok (.iconst 0, 1) := by decide +kernel
theorem d_RR_countEndings_47 : decode prog_1_method_47_code 47 = .ok (.istore_n 3, 1) := by decide +kernel
theorem d_RR_countEndings_48 : decode prog_1_method_47_code 48 = .ok (.aload_n 0, 1) := by decide +kernel
theorem d_RR_countEndings_49 : decode prog_1_method_47_code 49 = .ok (.iload_n 2, 1) := by decide +kernel
theorem d_RR_countEndings_50 : decode prog_1_method_47_code 50 = .ok (.iload_n 1, 1) := by decide +kernel
theorem d_RR_countEndings_51 : decode prog_1_method_47_code 51 = .ok (.invokestatic 257, 3) := by decide +kernel
theorem d_RR_countEndings_54 : decode prog_1_method_47_code 54 = .ok (.aload_n 0, 1) := by decide +kernel
theorem d_RR_countEndings_55 : decode prog_1_method_47_code 55 = .ok (.iload_n 2, 1) := by decide +kernel
theorem d_RR_countEndings_56 : decode prog_1_method_47_code 56 = .ok (.iconst 1, 1) := by decide +kernel
theorem d_RR_countEndings_57 : decode prog_1_method_47_code 57 = .ok (.isub, 1) := by decide +kernel
theorem d_RR_countEndings_58 : decode prog_1_method_47_code 58 = .ok (.iload_n 1, 1) := by decide +kernel
theorem d_RR_countEndings_59 : decode prog_1_method_47_code 59 = .ok (.invokestatic 257, 3) := by decide +kernel
theorem d_RR_countEndings_62 : decode prog_1_method_47_code 62 = .ok (.iaload, 1) := by decide +kernel
theorem d_RR_countEndings_63 : decode prog_1_method_47_code 63 = .ok (.iload_n 3, 1) := by decide +kernel
theorem d_RR_countEndings_64 : decode prog_1_method_47_code 64 = .ok (.iadd, 1) := by decide +kernel
theorem d_RR_countEndings_65 : decode prog_1_method_47_code 65 = .ok (.iastore, 1) := by decide +kernel
theorem d_RR_countEndings_66 : decode prog_1_method_47_code 66 = .ok (.iinc 2 1, 3) := by decide +kernel
theorem d_RR_countEndings_69 : decode prog_1_method_47_code 69 = .ok (.goto (-45), 3) := by decide +kernel
theorem d_RR_countEndings_72 : decode prog_1_method_47_code 72 = .ok (.iinc 1 1, 3) := by decide +kernel
theorem d_RR_countEndings_75 : decode prog_1_method_47_code 75 = .ok (.goto (-67), 3) := by decide +kernel
theorem d_RR_countEndings_78 : decode prog_1_method_47_code 78 = .ok (.aload_n 0, 1) := by decide +kernel
theorem d_RR_countEndings_79 : decode prog_1_method_47_code 79 = .ok (.areturn, 1) := by decide +kernel
theorem d_RR_endingsAt_0 : decode prog_1_method_48_code 0 = .ok (.iload_n 0, 1) := by decide +kernel
theorem d_RR_endingsAt_1 : decode prog_1_method_48_code 1 = .ok (.bipush 13, 2) := by decide +kernel
theorem d_RR_endingsAt_3 : decode prog_1_method_48_code 3 = .ok (.imul, 1) := by decide +kernel
theorem d_RR_endingsAt_4 : decode prog_1_method_48_code 4 = .ok (.iload_n 1, 1) := by decide +kernel
theorem d_RR_endingsAt_5 : decode prog_1_method_48_code 5 = .ok (.iadd, 1) := by decide +kernel
theorem d_RR_endingsAt_6 : decode prog_1_method_48_code 6 = .ok (.ireturn, 1) := by decide +kernel
theorem d_RR_sheet_0 : decode prog_1_method_2_code 0 = .ok (.iload_n 1, 1) := by decide +kernel
theorem d_RR_sheet_1 : decode prog_1_method_2_code 1 = .ok (.invokestatic 46, 3) := by decide +kernel
theorem d_RR_sheet_4 : decode prog_1_method_2_code 4 = .ok (.ifCond .eq 18, 3) := by decide +kernel
theorem d_RR_sheet_7 : decode prog_1_method_2_code 7 = .ok (.iload_n 2, 1) := by decide +kernel
theorem d_RR_sheet_8 : decode prog_1_method_2_code 8 = .ok (.ifCond .lt 14, 3) := by decide +kernel
theorem d_RR_sheet_11 : decode prog_1_method_2_code 11 = .ok (.iload_n 2, 1) := by decide +kernel
theorem d_RR_sheet_12 : decode prog_1_method_2_code 12 = .ok (.iconst 3, 1) := by decide +kernel
theorem d_RR_sheet_13 : decode prog_1_method_2_code 13 = .ok (.if_icmp .ge 9, 3) := by decide +kernel
theorem d_RR_sheet_16 : decode prog_1_method_2_code 16 = .ok (.iload_n 3, 1) := by decide +kernel
theorem d_RR_sheet_17 : decode prog_1_method_2_code 17 = .ok (.bipush 100, 2) := by decide +kernel
theorem d_RR_sheet_19 : decode prog_1_method_2_code 19 = .ok (.if_icmp .le 6, 3) := by decide +kernel
theorem d_RR_sheet_22 : decode prog_1_method_2_code 22 = .ok (.ldc 50, 2) := by decide +kernel
theorem d_RR_sheet_24 : decode prog_1_method_2_code 24 = .ok (.ireturn, 1) := by decide +kernel
theorem d_RR_sheet_25 : decode prog_1_method_2_code 25 = .ok (.iload_n 3, 1) := by decide +kernel
theorem d_RR_sheet_26 : decode prog_1_method_2_code 26 = .ok (.ifCond .ge 9, 3) := by decide +kernel
theorem d_RR_sheet_29 : decode prog_1_method_2_code 29 = .ok (.aload_n 0, 1) := by decide +kernel
theorem d_RR_sheet_30 : decode prog_1_method_2_code 30 = .ok (.iconst 4, 1) := by decide +kernel
theorem d_RR_sheet_31 : decode prog_1_method_2_code 31 = .ok (.invokevirtual 51, 3) := by decide +kernel
theorem d_RR_sheet_34 : decode prog_1_method_2_code 34 = .ok (.ireturn, 1) := by decide +kernel
theorem d_RR_sheet_35 : decode prog_1_method_2_code 35 = .ok (.aload_n 0, 1) := by decide +kernel
theorem d_RR_sheet_36 : decode prog_1_method_2_code 36 = .ok (.getfield 11, 3) := by decide +kernel
theorem d_RR_sheet_39 : decode prog_1_method_2_code 39 = .ok (.iload_n 1, 1) := by decide +kernel
theorem d_RR_sheet_40 : decode prog_1_method_2_code 40 = .ok (.new 9, 3) := by decide +kernel
theorem d_RR_sheet_43 : decode prog_1_method_2_code 43 = .ok (.dup, 1) := by decide +kernel
theorem d_RR_sheet_44 : decode prog_1_method_2_code 44 = .ok (.iload_n 2, 1) := by decide +kernel
theorem d_RR_sheet_45 : decode prog_1_method_2_code 45 = .ok (.iload_n 3, 1) := by decide +kernel
theorem d_RR_sheet_46 : decode prog_1_method_2_code 46 = .ok (.newarray .int, 2) := by decide +kernel
theorem d_RR_sheet_48 : decode prog_1_method_2_code 48 = .ok (.invokespecial 55, 3) := by decide +kernel
theorem d_RR_sheet_51 : decode prog_1_method_2_code 51 = .ok (.aastore, 1) := by decide +kernel
theorem d_RR_sheet_52 : decode prog_1_method_2_code 52 = .ok (.aload_n 0, 1) := by decide +kernel
theorem d_RR_sheet_53 : decode prog_1_method_2_code 53 = .ok (.iload_n 3, 1) := by decide +kernel
theorem d_RR_sheet_54 : decode prog_1_method_2_code 54 = .ok (.invokevirtual 58, 3) := by decide +kernel
theorem d_RR_sheet_57 : decode prog_1_method_2_code 57 = .ok (.ireturn, 1) := by decide +kernel
theorem d_RR_isSheet_0 : decode prog_1_method_36_code 0 = .ok (.iload_n 0, 1) := by decide +kernel
theorem d_RR_isSheet_1 : decode prog_1_method_36_code 1 = .ok (.ifCond .lt 13, 3) := by decide +kernel
theorem d_RR_isSheet_4 : decode prog_1_method_36_code 4 = .ok (.iload_n 0, 1) := by decide +kernel
theorem d_RR_isSheet_5 : decode prog_1_method_36_code 5 = .ok (.bipush 8, 2) := by decide +kernel
theorem d_RR_isSheet_7 : decode prog_1_method_36_code 7 = .ok (.if_icmp .ge 7, 3) := by decide +kernel
theorem d_RR_isSheet_10 : decode prog_1_method_36_code 10 = .ok (.iconst 1, 1) := by decide +kernel
theorem d_RR_isSheet_11 : decode prog_1_method_36_code 11 = .ok (.goto 4, 3) := by decide +kernel
theorem d_RR_isSheet_14 : decode prog_1_method_36_code 14 = .ok (.iconst 0, 1) := by decide +kernel
theorem d_RR_isSheet_15 : decode prog_1_method_36_code 15 = .ok (.ireturn, 1) := by decide +kernel
theorem d_RR_found_0 : decode prog_1_method_32_code 0 = .ok (.aload_n 0, 1) := by decide +kernel
theorem d_RR_found_1 : decode prog_1_method_32_code 1 = .ok (.iload_n 1, 1) := by decide +kernel
theorem d_RR_found_2 : decode prog_1_method_32_code 2 = .ok (.putfield 42, 3) := by decide +kernel
theorem d_RR_found_5 : decode prog_1_method_32_code 5 = .ok (.ldc 230, 2) := by decide +kernel
theorem d_RR_found_7 : decode prog_1_method_32_code 7 = .ok (.iload_n 1, 1) := by decide +kernel
theorem d_RR_found_8 : decode prog_1_method_32_code 8 = .ok (.isub, 1) := by decide +kernel
theorem d_RR_found_9 : decode prog_1_method_32_code 9 = .ok (.ireturn, 1) := by decide +kernel
theorem d_Sh_init_0 : decode prog_9_method_1_code 0 = .ok (.aload_n 0, 1) := by decide +kernel
theorem d_Sh_init_1 : decode prog_9_method_1_code 1 = .ok (.invokespecial 1, 3) := by decide +kernel
theorem d_Sh_init_4 : decode prog_9_method_1_code 4 = .ok (.aload_n 0, 1) := by decide +kernel
theorem d_Sh_init_5 : decode prog_9_method_1_code 5 = .ok (.iload_n 1, 1) := by decide +kernel
theorem d_Sh_init_6 : decode prog_9_method_1_code 6 = .ok (.putfield 7, 3) := by decide +kernel
theorem d_Sh_init_9 : decode prog_9_method_1_code 9 = .ok (.aload_n 0, 1) := by decide +kernel
theorem d_Sh_init_10 : decode prog_9_method_1_code 10 = .ok (.aload_n 2, 1) := by decide +kernel
theorem d_Sh_init_11 : decode prog_9_method_1_code 11 = .ok (.putfield 13, 3) := by decide +kernel
theorem d_Sh_init_14 : decode prog_9_method_1_code 14 = .ok (.return_, 1) := by decide +kernel
theorem d_RR_settled_0 : decode prog_1_method_34_code 0 = .ok (.aload_n 0, 1) := by decide +kernel
theorem d_RR_settled_1 : decode prog_1_method_34_code 1 = .ok (.iconst 0, 1) := by decide +kernel
theorem d_RR_settled_2 : decode prog_1_method_34_code 2 = .ok (.putfield 42, 3) := by decide +kernel
theorem d_RR_settled_5 : decode prog_1_method_34_code 5 = .ok (.iload_n 1, 1) := by decide +kernel
theorem d_RR_settled_6 : decode prog_1_method_34_code 6 = .ok (.ireturn, 1) := by decide +kernel
theorem d_RR_set_0 : decode prog_1_method_3_code 0 = .ok (.iload_n 1, 1) := by decide +kernel
theorem d_RR_set_1 : decode prog_1_method_3_code 1 = .ok (.invokestatic 46, 3) := by decide +kernel
theorem d_RR_set_4 : decode prog_1_method_3_code 4 = .ok (.ifCond .ne 6, 3) := by decide +kernel
theorem d_RR_set_7 : decode prog_1_method_3_code 7 = .ok (.ldc 50, 2) := by decide +kernel
theorem d_RR_set_9 : decode prog_1_method_3_code 9 = .ok (.ireturn, 1) := by decide +kernel
theorem d_RR_set_10 : decode prog_1_method_3_code 10 = .ok (.aload_n 0, 1) := by decide +kernel
theorem d_RR_set_11 : decode prog_1_method_3_code 11 = .ok (.getfield 11, 3) := by decide +kernel
theorem d_RR_set_14 : decode prog_1_method_3_code 14 = .ok (.iload_n 1, 1) := by decide +kernel
theorem d_RR_set_15 : decode prog_1_method_3_code 15 = .ok (.aaload, 1) := by decide +kernel
theorem d_RR_set_16 : decode prog_1_method_3_code 16 = .ok (.astore 4, 2) := by decide +kernel
theorem d_RR_set_18 : decode prog_1_method_3_code 18 = .ok (.aload 4, 2) := by decide +kernel
theorem d_RR_set_20 : decode prog_1_method_3_code 20 = .ok (.ifnonnull 9, 3) := by decide +kernel
theorem d_RR_set_23 : decode prog_1_method_3_code 23 = .ok (.aload_n 0, 1) := by decide +kernel
theorem d_RR_set_24 : decode prog_1_method_3_code 24 = .ok (.iconst 1, 1) := by decide +kernel
theorem d_RR_set_25 : decode prog_1_method_3_code 25 = .ok (.invokevirtual 51, 3) := by decide +kernel
theorem d_RR_set_28 : decode prog_1_method_3_code 28 = .ok (.ireturn, 1) := by decide +kernel
theorem d_RR_set_29 : decode prog_1_method_3_code 29 = .ok (.aload 4, 2) := by decide +kernel
theorem d_RR_set_31 : decode prog_1_method_3_code 31 = .ok (.iload_n 2, 1) := by decide +kernel
theorem d_RR_set_32 : decode prog_1_method_3_code 32 = .ok (.iconst 1, 1) := by decide +kernel
theorem d_RR_set_33 : decode prog_1_method_3_code 33 = .ok (.invokevirtual 61, 3) := by decide +kernel
theorem d_RR_set_36 : decode prog_1_method_3_code 36 = .ok (.ifCond .ne 9, 3) := by decide +kernel
theorem d_RR_set_39 : decode prog_1_method_3_code 39 = .ok (.aload_n 0, 1) := by decide +kernel
theorem d_RR_set_40 : decode prog_1_method_3_code 40 = .ok (.iconst 2, 1) := by decide +kernel
theorem d_RR_set_41 : decode prog_1_method_3_code 41 = .ok (.invokevirtual 51, 3) := by decide +kernel
theorem d_RR_set_44 : decode prog_1_method_3_code 44 = .ok (.ireturn, 1) := by decide +kernel
theorem d_RR_set_45 : decode prog_1_method_3_code 45 = .ok (.aload 4, 2) := by decide +kernel
theorem d_RR_set_47 : decode prog_1_method_3_code 47 = .ok (.getfield 65, 3) := by decide +kernel
theorem d_RR_set_50 : decode prog_1_method_3_code 50 = .ok (.iload_n 2, 1) := by decide +kernel
theorem d_RR_set_51 : decode prog_1_method_3_code 51 = .ok (.aload 4, 2) := by decide +kernel
theorem d_RR_set_53 : decode prog_1_method_3_code 53 = .ok (.iload_n 3, 1) := by decide +kernel
theorem d_RR_set_54 : decode prog_1_method_3_code 54 = .ok (.invokevirtual 68, 3) := by decide +kernel
theorem d_RR_set_57 : decode prog_1_method_3_code 57 = .ok (.iastore, 1) := by decide +kernel
theorem d_RR_set_58 : decode prog_1_method_3_code 58 = .ok (.aload_n 0, 1) := by decide +kernel
theorem d_RR_set_59 : decode prog_1_method_3_code 59 = .ok (.aload 4, 2) := by decide +kernel
theorem d_RR_set_61 : decode prog_1_method_3_code 61 = .ok (.getfield 65, 3) := by decide +kernel
theorem d_RR_set_64 : decode prog_1_method_3_code 64 = .ok (.iload_n 2, 1) := by decide +kernel
theorem d_RR_set_65 : decode prog_1_method_3_code 65 = .ok (.iaload, 1) := by decide +kernel
theorem d_RR_set_66 : decode prog_1_method_3_code 66 = .ok (.invokevirtual 58, 3) := by decide +kernel
theorem d_RR_set_69 : decode prog_1_method_3_code 69 = .ok (.ireturn, 1) := by decide +kernel
theorem d_Sh_holds_0 : decode prog_9_method_2_code 0 = .ok (.iload_n 1, 1) := by decide +kernel
theorem d_Sh_holds_1 : decode prog_9_method_2_code 1 = .ok (.ifCond .lt 22, 3) := by decide +kernel
theorem d_Sh_holds_4 : decode prog_9_method_2_code 4 = .ok (.iload_n 2, 1) := by decide +kernel
theorem d_Sh_holds_5 : decode prog_9_method_2_code 5 = .ok (.ifCond .lt 18, 3) := by decide +kernel
theorem d_Sh_holds_8 : decode prog_9_method_2_code 8 = .ok (.iload_n 1, 1) := by decide +kernel
theorem d_Sh_holds_9 : decode prog_9_method_2_code 9 = .ok (.aload_n 0, 1) := by decide +kernel
theorem d_Sh_holds_10 : decode prog_9_method_2_code 10 = .ok (.getfield 13, 3) := by decide +kernel
theorem d_Sh_holds_13 : decode prog_9_method_2_code 13 = .ok (.arraylength, 1) := by decide +kernel
theorem d_Sh_holds_14 : decode prog_9_method_2_code 14 = .ok (.iload_n 2, 1) := by decide +kernel
theorem d_Sh_holds_15 : decode prog_9_method_2_code 15 = .ok (.isub, 1) := by decide +kernel
theorem d_Sh_holds_16 : decode prog_9_method_2_code 16 = .ok (.if_icmp .gt 7, 3) := by decide +kernel
theorem d_Sh_holds_19 : decode prog_9_method_2_code 19 = .ok (.iconst 1, 1) := by decide +kernel
theorem d_Sh_holds_20 : decode prog_9_method_2_code 20 = .ok (.goto 4, 3) := by decide +kernel
theorem d_Sh_holds_23 : decode prog_9_method_2_code 23 = .ok (.iconst 0, 1) := by decide +kernel
theorem d_Sh_holds_24 : decode prog_9_method_2_code 24 = .ok (.ireturn, 1) := by decide +kernel
theorem d_Sh_cut_0 : decode prog_9_method_3_code 0 = .ok (.aload_n 0, 1) := by decide +kernel
theorem d_Sh_cut_1 : decode prog_9_method_3_code 1 = .ok (.getfield 7, 3) := by decide +kernel
theorem d_Sh_cut_4 : decode prog_9_method_3_code 4 = .ok (.lookupswitch 34 #[(0, 28), (1, 31)], 28) := by decide +kernel
theorem d_Sh_cut_32 : decode prog_9_method_3_code 32 = .ok (.iload_n 1, 1) := by decide +kernel
theorem d_Sh_cut_33 : decode prog_9_method_3_code 33 = .ok (.i2b, 1) := by decide +kernel
theorem d_Sh_cut_34 : decode prog_9_method_3_code 34 = .ok (.ireturn, 1) := by decide +kernel
theorem d_Sh_cut_35 : decode prog_9_method_3_code 35 = .ok (.iload_n 1, 1) := by decide +kernel
theorem d_Sh_cut_36 : decode prog_9_method_3_code 36 = .ok (.i2s, 1) := by decide +kernel
theorem d_Sh_cut_37 : decode prog_9_method_3_code 37 = .ok (.ireturn, 1) := by decide +kernel
theorem d_Sh_cut_38 : decode prog_9_method_3_code 38 = .ok (.iload_n 1, 1) := by decide +kernel
theorem d_Sh_cut_39 : decode prog_9_method_3_code 39 = .ok (.ireturn, 1) := by decide +kernel
theorem d_RR_copy_0 : decode prog_1_method_4_code 0 = .ok (.iload_n 1, 1) := by decide +kernel
theorem d_RR_copy_1 : decode prog_1_method_4_code 1 = .ok (.invokestatic 46, 3) := by decide +kernel
theorem d_RR_copy_4 : decode prog_1_method_4_code 4 = .ok (.ifCond .eq 10, 3) := by decide +kernel
theorem d_RR_copy_7 : decode prog_1_method_4_code 7 = .ok (.iload_n 3, 1) := by decide +kernel
theorem d_RR_copy_8 : decode prog_1_method_4_code 8 = .ok (.invokestatic 46, 3) := by decide +kernel
theorem d_RR_copy_11 : decode prog_1_method_4_code 11 = .ok (.ifCond .ne 6, 3) := by decide +kernel
theorem d_RR_copy_14 : decode prog_1_method_4_code 14 = .ok (.ldc 50, 2) := by decide +kernel
theorem d_RR_copy_16 : decode prog_1_method_4_code 16 = .ok (.ireturn, 1) := by decide +kernel
theorem d_RR_copy_17 : decode prog_1_method_4_code 17 = .ok (.aload_n 0, 1) := by decide +kernel
theorem d_RR_copy_18 : decode prog_1_method_4_code 18 = .ok (.getfield 11, 3) := by decide +kernel
theorem d_RR_copy_21 : decode prog_1_method_4_code 21 = .ok (.iload_n 1, 1) := by decide +kernel
theorem d_RR_copy_22 : decode prog_1_method_4_code 22 = .ok (.aaload, 1) := by decide +kernel
theorem d_RR_copy_23 : decode prog_1_method_4_code 23 = .ok (.astore 6, 2) := by decide +kernel
theorem d_RR_copy_25 : decode prog_1_method_4_code 25 = .ok (.aload_n 0, 1) := by decide +kernel
theorem d_RR_copy_26 : decode prog_1_method_4_code 26 = .ok (.getfield 11, 3) := by decide +kernel
theorem d_RR_copy_29 : decode prog_1_method_4_code 29 = .ok (.iload_n 3, 1) := by decide +kernel
theorem d_RR_copy_30 : decode prog_1_method_4_code 30 = .ok (.aaload, 1) := by decide +kernel
theorem d_RR_copy_31 : decode prog_1_method_4_code 31 = .ok (.astore 7, 2) := by decide +kernel
theorem d_RR_copy_33 : decode prog_1_method_4_code 33 = .ok (.aload 6, 2) := by decide +kernel
theorem d_RR_copy_35 : decode prog_1_method_4_code 35 = .ok (.ifnull 8, 3) := by decide +kernel
theorem d_RR_copy_38 : decode prog_1_method_4_code 38 = .ok (.aload 7, 2) := by decide +kernel
theorem d_RR_copy_40 : decode prog_1_method_4_code 40 = .ok (.ifnonnull 9, 3) := by decide +kernel
theorem d_RR_copy_43 : decode prog_1_method_4_code 43 = .ok (.aload_n 0, 1) := by decide +kernel
theorem d_RR_copy_44 : decode prog_1_method_4_code 44 = .ok (.iconst 1, 1) := by decide +kernel
theorem d_RR_copy_45 : decode prog_1_method_4_code 45 = .ok (.invokevirtual 51, 3) := by decide +kernel
theorem d_RR_copy_48 : decode prog_1_method_4_code 48 = .ok (.ireturn, 1) := by decide +kernel
theorem d_RR_copy_49 : decode prog_1_method_4_code 49 = .ok (.aload 6, 2) := by decide +kernel
theorem d_RR_copy_51 : decode prog_1_method_4_code 51 = .ok (.getfield 71, 3) := by decide +kernel
theorem d_RR_copy_54 : decode prog_1_method_4_code 54 = .ok (.aload 7, 2) := by decide +kernel
theorem d_RR_copy_56 : decode prog_1_method_4_code 56 = .ok (.getfield 71, 3) := by decide +kernel
theorem d_RR_copy_59 : decode prog_1_method_4_code 59 = .ok (.if_icmp .eq 9, 3) := by decide +kernel
theorem d_RR_copy_62 : decode prog_1_method_4_code 62 = .ok (.aload_n 0, 1) := by decide +kernel
theorem d_RR_copy_63 : decode prog_1_method_4_code 63 = .ok (.iconst 5, 1) := by decide +kernel
theorem d_RR_copy_64 : decode prog_1_method_4_code 64 = .ok (.invokevirtual 51, 3) := by decide +kernel
theorem d_RR_copy_67 : decode prog_1_method_4_code 67 = .ok (.ireturn, 1) := by decide +kernel
theorem d_RR_copy_68 : decode prog_1_method_4_code 68 = .ok (.aload 6, 2) := by decide +kernel
theorem d_RR_copy_70 : decode prog_1_method_4_code 70 = .ok (.iload_n 2, 1) := by decide +kernel
theorem d_RR_copy_71 : decode prog_1_method_4_code 71 = .ok (.iload 5, 2) := by decide +kernel
theorem d_RR_copy_73 : decode prog_1_method_4_code 73 = .ok (.invokevirtual 61, 3) := by decide +kernel
theorem d_RR_copy_76 : decode prog_1_method_4_code 76 = .ok (.ifCond .eq 15, 3) := by decide +kernel
theorem d_RR_copy_79 : decode prog_1_method_4_code 79 = .ok (.aload 7, 2) := by decide +kernel
theorem d_RR_copy_81 : decode prog_1_method_4_code 81 = .ok (.iload 4, 2) := by decide +kernel
theorem d_RR_copy_83 : decode prog_1_method_4_code 83 = .ok (.iload 5, 2) := by decide +kernel
theorem d_RR_copy_85 : decode prog_1_method_4_code 85 = .ok (.invokevirtual 61, 3) := by decide +kernel
theorem d_RR_copy_88 : decode prog_1_method_4_code 88 = .ok (.ifCond .ne 9, 3) := by decide +kernel
theorem d_RR_copy_91 : decode prog_1_method_4_code 91 = .ok (.aload_n 0, 1) := by decide +kernel
theorem d_RR_copy_92 : decode prog_1_method_4_code 92 = .ok (.iconst 2, 1) := by decide +kernel
theorem d_RR_copy_93 : decode prog_1_method_4_code 93 = .ok (.invokevirtual 51, 3) := by decide +kernel
theorem d_RR_copy_96 : decode prog_1_method_4_code 96 = .ok (.ireturn, 1) := by decide +kernel
theorem d_RR_copy_97 : decode prog_1_method_4_code 97 = .ok (.aload 6, 2) := by decide +kernel
theorem d_RR_copy_99 : decode prog_1_method_4_code 99 = .ok (.getfield 65, 3) := by decide +kernel
theorem d_RR_copy_102 : decode prog_1_method_4_code 102 = .ok (.iload_n 2, 1) := by decide +kernel
theorem d_RR_copy_103 : decode prog_1_method_4_code 103 = .ok (.aload 7, 2) := by decide +kernel
theorem d_RR_copy_105 : decode prog_1_method_4_code 105 = .ok (.getfield 65, 3) := by decide +kernel
theorem d_RR_copy_108 : decode prog_1_method_4_code 108 = .ok (.iload 4, 2) := by decide +kernel
theorem d_RR_copy_110 : decode prog_1_method_4_code 110 = .ok (.iload 5, 2) := by decide +kernel
theorem d_RR_copy_112 : decode prog_1_method_4_code 112 = .ok (.invokestatic 74, 3) := by decide +kernel
theorem d_RR_copy_115 : decode prog_1_method_4_code 115 = .ok (.aload_n 0, 1) := by decide +kernel
theorem d_RR_copy_116 : decode prog_1_method_4_code 116 = .ok (.iload 5, 2) := by decide +kernel
theorem d_RR_copy_118 : decode prog_1_method_4_code 118 = .ok (.invokevirtual 58, 3) := by decide +kernel
theorem d_RR_copy_121 : decode prog_1_method_4_code 121 = .ok (.ireturn, 1) := by decide +kernel
theorem d_RR_drop_0 : decode prog_1_method_5_code 0 = .ok (.iload_n 1, 1) := by decide +kernel
theorem d_RR_drop_1 : decode prog_1_method_5_code 1 = .ok (.invokestatic 46, 3) := by decide +kernel
theorem d_RR_drop_4 : decode prog_1_method_5_code 4 = .ok (.ifCond .ne 6, 3) := by decide +kernel
theorem d_RR_drop_7 : decode prog_1_method_5_code 7 = .ok (.ldc 50, 2) := by decide +kernel
theorem d_RR_drop_9 : decode prog_1_method_5_code 9 = .ok (.ireturn, 1) := by decide +kernel
theorem d_RR_drop_10 : decode prog_1_method_5_code 10 = .ok (.aload_n 0, 1) := by decide +kernel
theorem d_RR_drop_11 : decode prog_1_method_5_code 11 = .ok (.getfield 11, 3) := by decide +kernel
theorem d_RR_drop_14 : decode prog_1_method_5_code 14 = .ok (.iload_n 1, 1) := by decide +kernel
theorem d_RR_drop_15 : decode prog_1_method_5_code 15 = .ok (.aaload, 1) := by decide +kernel
theorem d_RR_drop_16 : decode prog_1_method_5_code 16 = .ok (.astore_n 2, 1) := by decide +kernel
theorem d_RR_drop_17 : decode prog_1_method_5_code 17 = .ok (.aload_n 2, 1) := by decide +kernel
theorem d_RR_drop_18 : decode prog_1_method_5_code 18 = .ok (.ifnonnull 9, 3) := by decide +kernel
theorem d_RR_drop_21 : decode prog_1_method_5_code 21 = .ok (.aload_n 0, 1) := by decide +kernel
theorem d_RR_drop_22 : decode prog_1_method_5_code 22 = .ok (.iconst 1, 1) := by decide +kernel
theorem d_RR_drop_23 : decode prog_1_method_5_code 23 = .ok (.invokevirtual 51, 3) := by decide +kernel
theorem d_RR_drop_26 : decode prog_1_method_5_code 26 = .ok (.ireturn, 1) := by decide +kernel
theorem d_RR_drop_27 : decode prog_1_method_5_code 27 = .ok (.aload_n 0, 1) := by decide +kernel
theorem d_RR_drop_28 : decode prog_1_method_5_code 28 = .ok (.getfield 11, 3) := by decide +kernel
theorem d_RR_drop_31 : decode prog_1_method_5_code 31 = .ok (.iload_n 1, 1) := by decide +kernel
theorem d_RR_drop_32 : decode prog_1_method_5_code 32 = .ok (.aconst_null, 1) := by decide +kernel
theorem d_RR_drop_33 : decode prog_1_method_5_code 33 = .ok (.aastore, 1) := by decide +kernel
theorem d_RR_drop_34 : decode prog_1_method_5_code 34 = .ok (.aload_n 0, 1) := by decide +kernel
theorem d_RR_drop_35 : decode prog_1_method_5_code 35 = .ok (.aload_n 2, 1) := by decide +kernel
theorem d_RR_drop_36 : decode prog_1_method_5_code 36 = .ok (.getfield 65, 3) := by decide +kernel
theorem d_RR_drop_39 : decode prog_1_method_5_code 39 = .ok (.arraylength, 1) := by decide +kernel
theorem d_RR_drop_40 : decode prog_1_method_5_code 40 = .ok (.invokevirtual 58, 3) := by decide +kernel
theorem d_RR_drop_43 : decode prog_1_method_5_code 43 = .ok (.ireturn, 1) := by decide +kernel
theorem d_RR_row_0 : decode prog_1_method_6_code 0 = .ok (.iload_n 1, 1) := by decide +kernel
theorem d_RR_row_1 : decode prog_1_method_6_code 1 = .ok (.invokestatic 80, 3) := by decide +kernel
theorem d_RR_row_4 : decode prog_1_method_6_code 4 = .ok (.ifCond .eq 23, 3) := by decide +kernel
theorem d_RR_row_7 : decode prog_1_method_6_code 7 = .ok (.iload_n 2, 1) := by decide +kernel
theorem d_RR_row_8 : decode prog_1_method_6_code 8 = .ok (.invokestatic 46, 3) := by decide +kernel
theorem d_RR_row_11 : decode prog_1_method_6_code 11 = .ok (.ifCond .eq 16, 3) := by decide +kernel
theorem d_RR_row_14 : decode prog_1_method_6_code 14 = .ok (.iload 4, 2) := by decide +kernel
theorem d_RR_row_16 : decode prog_1_method_6_code 16 = .ok (.iconst 1, 1) := by decide +kernel
theorem d_RR_row_17 : decode prog_1_method_6_code 17 = .ok (.if_icmp .lt 10, 3) := by decide +kernel
theorem d_RR_row_20 : decode prog_1_method_6_code 20 = .ok (.iload 4, 2) := by decide +kernel
theorem d_RR_row_22 : decode prog_1_method_6_code 22 = .ok (.bipush 20, 2) := by decide +kernel
theorem d_RR_row_24 : decode prog_1_method_6_code 24 = .ok (.if_icmp .le 6, 3) := by decide +kernel
theorem d_RR_row_27 : decode prog_1_method_6_code 27 = .ok (.ldc 50, 2) := by decide +kernel
theorem d_RR_row_29 : decode prog_1_method_6_code 29 = .ok (.ireturn, 1) := by decide +kernel
theorem d_RR_row_30 : decode prog_1_method_6_code 30 = .ok (.aload_n 0, 1) := by decide +kernel
theorem d_RR_row_31 : decode prog_1_method_6_code 31 = .ok (.getfield 11, 3) := by decide +kernel
theorem d_RR_row_34 : decode prog_1_method_6_code 34 = .ok (.iload_n 2, 1) := by decide +kernel
theorem d_RR_row_35 : decode prog_1_method_6_code 35 = .ok (.aaload, 1) := by decide +kernel
theorem d_RR_row_36 : decode prog_1_method_6_code 36 = .ok (.astore 5, 2) := by decide +kernel
theorem d_RR_row_38 : decode prog_1_method_6_code 38 = .ok (.aload 5, 2) := by decide +kernel
theorem d_RR_row_40 : decode prog_1_method_6_code 40 = .ok (.ifnonnull 9, 3) := by decide +kernel
theorem d_RR_row_43 : decode prog_1_method_6_code 43 = .ok (.aload_n 0, 1) := by decide +kernel
theorem d_RR_row_44 : decode prog_1_method_6_code 44 = .ok (.iconst 1, 1) := by decide +kernel
theorem d_RR_row_45 : decode prog_1_method_6_code 45 = .ok (.invokevirtual 51, 3) := by decide +kernel
theorem d_RR_row_48 : decode prog_1_method_6_code 48 = .ok (.ireturn, 1) := by decide +kernel
theorem d_RR_row_49 : decode prog_1_method_6_code 49 = .ok (.aload 5, 2) := by decide +kernel
theorem d_RR_row_51 : decode prog_1_method_6_code 51 = .ok (.iload_n 3, 1) := by decide +kernel
theorem d_RR_row_52 : decode prog_1_method_6_code 52 = .ok (.iconst 2, 1) := by decide +kernel
theorem d_RR_row_53 : decode prog_1_method_6_code 53 = .ok (.iload 4, 2) := by decide +kernel
theorem d_RR_row_55 : decode prog_1_method_6_code 55 = .ok (.imul, 1) := by decide +kernel
theorem d_RR_row_56 : decode prog_1_method_6_code 56 = .ok (.invokevirtual 61, 3) := by decide +kernel
theorem d_RR_row_59 : decode prog_1_method_6_code 59 = .ok (.ifCond .ne 9, 3) := by decide +kernel
theorem d_RR_row_62 : decode prog_1_method_6_code 62 = .ok (.aload_n 0, 1) := by decide +kernel
theorem d_RR_row_63 : decode prog_1_method_6_code 63 = .ok (.iconst 2, 1) := by decide +kernel
theorem d_RR_row_64 : decode prog_1_method_6_code 64 = .ok (.invokevirtual 51, 3) := by decide +kernel
theorem d_RR_row_67 : decode prog_1_method_6_code 67 = .ok (.ireturn, 1) := by decide +kernel
theorem d_RR_row_68 : decode prog_1_method_6_code 68 = .ok (.lconst 0, 1) := by decide +kernel
theorem d_RR_row_69 : decode prog_1_method_6_code 69 = .ok (.lstore 6, 2) := by decide +kernel
theorem d_RR_row_71 : decode prog_1_method_6_code 71 = .ok (.iconst 0, 1) := by decide +kernel
theorem d_RR_row_72 : decode prog_1_method_6_code 72 = .ok (.istore 8, 2) := by decide +kernel
theorem d_RR_row_74 : decode prog_1_method_6_code 74 = .ok (.iload 8, 2) := by decide +kernel
theorem d_RR_row_76 : decode prog_1_method_6_code 76 = .ok (.iconst 2, 1) := by decide +kernel
theorem d_RR_row_77 : decode prog_1_method_6_code 77 = .ok (.iload 4, 2) := by decide +kernel
theorem d_RR_row_79 : decode prog_1_method_6_code 79 = .ok (.imul, 1) := by decide +kernel
theorem d_RR_row_80 : decode prog_1_method_6_code 80 = .ok (.if_icmp .ge 43, 3) := by decide +kernel
theorem d_RR_row_83 : decode prog_1_method_6_code 83 = .ok (.aload 5, 2) := by decide +kernel
theorem d_RR_row_85 : decode prog_1_method_6_code 85 = .ok (.getfield 65, 3) := by decide +kernel
theorem d_RR_row_88 : decode prog_1_method_6_code 88 = .ok (.iload_n 3, 1) := by decide +kernel
theorem d_RR_row_89 : decode prog_1_method_6_code 89 = .ok (.iload 8, 2) := by decide +kernel
theorem d_RR_row_91 : decode prog_1_method_6_code 91 = .ok (.iadd, 1) := by decide +kernel
theorem d_RR_row_92 : decode prog_1_method_6_code 92 = .ok (.iaload, 1) := by decide +kernel
theorem d_RR_row_93 : decode prog_1_method_6_code 93 = .ok (.istore 9, 2) := by decide +kernel
theorem d_RR_row_95 : decode prog_1_method_6_code 95 = .ok (.iload 9, 2) := by decide +kernel
theorem d_RR_row_97 : decode prog_1_method_6_code 97 = .ok (.ifCond .ne 6, 3) := by decide +kernel
theorem d_RR_row_100 : decode prog_1_method_6_code 100 = .ok (.ldc 50, 2) := by decide +kernel
theorem d_RR_row_102 : decode prog_1_method_6_code 102 = .ok (.ireturn, 1) := by decide +kernel
theorem d_RR_row_103 : decode prog_1_method_6_code 103 = .ok (.iload 9, 2) := by decide +kernel
theorem d_RR_row_105 : decode prog_1_method_6_code 105 = .ok (.ifCond .le 12, 3) := by decide +kernel
theorem d_RR_row_108 : decode prog_1_method_6_code 108 = .ok (.lload 6, 2) := by decide +kernel
theorem d_RR_row_110 : decode prog_1_method_6_code 110 = .ok (.lconst 1, 1) := by decide +kernel
theorem d_RR_row_111 : decode prog_1_method_6_code 111 = .ok (.iload 8, 2) := by decide +kernel
theorem d_RR_row_113 : decode prog_1_method_6_code 113 = .ok (.lshl, 1) := by decide +kernel
theorem d_RR_row_114 : decode prog_1_method_6_code 114 = .ok (.lor, 1) := by decide +kernel
theorem d_RR_row_115 : decode prog_1_method_6_code 115 = .ok (.lstore 6, 2) := by decide +kernel
theorem d_RR_row_117 : decode prog_1_method_6_code 117 = .ok (.iinc 8 1, 3) := by decide +kernel
theorem d_RR_row_120 : decode prog_1_method_6_code 120 = .ok (.goto (-46), 3) := by decide +kernel
theorem d_RR_row_123 : decode prog_1_method_6_code 123 = .ok (.aload_n 0, 1) := by decide +kernel
theorem d_RR_row_124 : decode prog_1_method_6_code 124 = .ok (.iload_n 1, 1) := by decide +kernel
theorem d_RR_row_125 : decode prog_1_method_6_code 125 = .ok (.iload 4, 2) := by decide +kernel
theorem d_RR_row_127 : decode prog_1_method_6_code 127 = .ok (.lload 6, 2) := by decide +kernel
theorem d_RR_row_129 : decode prog_1_method_6_code 129 = .ok (.invokestatic 83, 3) := by decide +kernel
theorem d_RR_row_132 : decode prog_1_method_6_code 132 = .ok (.invokevirtual 87, 3) := by decide +kernel
theorem d_RR_row_135 : decode prog_1_method_6_code 135 = .ok (.ireturn, 1) := by decide +kernel
theorem d_RR_isPlace_0 : decode prog_1_method_37_code 0 = .ok (.iload_n 0, 1) := by decide +kernel
theorem d_RR_isPlace_1 : decode prog_1_method_37_code 1 = .ok (.ifCond .lt 13, 3) := by decide +kernel
theorem d_RR_isPlace_4 : decode prog_1_method_37_code 4 = .ok (.iload_n 0, 1) := by decide +kernel
theorem d_RR_isPlace_5 : decode prog_1_method_37_code 5 = .ok (.bipush 10, 2) := by decide +kernel
theorem d_RR_isPlace_7 : decode prog_1_method_37_code 7 = .ok (.if_icmp .ge 7, 3) := by decide +kernel
theorem d_RR_isPlace_10 : decode prog_1_method_37_code 10 = .ok (.iconst 1, 1) := by decide +kernel
theorem d_RR_isPlace_11 : decode prog_1_method_37_code 11 = .ok (.goto 4, 3) := by decide +kernel
theorem d_RR_isPlace_14 : decode prog_1_method_37_code 14 = .ok (.iconst 0, 1) := by decide +kernel
theorem d_RR_isPlace_15 : decode prog_1_method_37_code 15 = .ok (.ireturn, 1) := by decide +kernel
theorem d_RR_rowOf_0 : decode prog_1_method_42_code 0 = .ok (.iload_n 0, 1) := by decide +kernel
theorem d_RR_rowOf_1 : decode prog_1_method_42_code 1 = .ok (.lload_n 1, 1) := by decide +kernel
theorem d_RR_rowOf_2 : decode prog_1_method_42_code 2 = .ok (.invokestatic 239, 3) := by decide +kernel
theorem d_RR_rowOf_5 : decode prog_1_method_42_code 5 = .ok (.ifCond .eq 11, 3) := by decide +kernel
theorem d_RR_rowOf_8 : decode prog_1_method_42_code 8 = .ok (.iload_n 0, 1) := by decide +kernel
theorem d_RR_rowOf_9 : decode prog_1_method_42_code 9 = .ok (.lload_n 1, 1) := by decide +kernel
theorem d_RR_rowOf_10 : decode prog_1_method_42_code 10 = .ok (.invokestatic 122, 3) := by decide +kernel
theorem d_RR_rowOf_13 : decode prog_1_method_42_code 13 = .ok (.goto 12, 3) := by decide +kernel
theorem d_RR_rowOf_16 : decode prog_1_method_42_code 16 = .ok (.new 171, 3) := by decide +kernel
theorem d_RR_rowOf_19 : decode prog_1_method_42_code 19 = .ok (.dup, 1) := by decide +kernel
theorem d_RR_rowOf_20 : decode prog_1_method_42_code 20 = .ok (.iload_n 0, 1) := by decide +kernel
theorem d_RR_rowOf_21 : decode prog_1_method_42_code 21 = .ok (.lload_n 1, 1) := by decide +kernel
theorem d_RR_rowOf_22 : decode prog_1_method_42_code 22 = .ok (.invokespecial 243, 3) := by decide +kernel
theorem d_RR_rowOf_25 : decode prog_1_method_42_code 25 = .ok (.areturn, 1) := by decide +kernel
theorem d_RR_areArches_0 : decode prog_1_method_43_code 0 = .ok (.iconst 0, 1) := by decide +kernel
theorem d_RR_areArches_1 : decode prog_1_method_43_code 1 = .ok (.istore_n 3, 1) := by decide +kernel
theorem d_RR_areArches_2 : decode prog_1_method_43_code 2 = .ok (.iconst 0, 1) := by decide +kernel
theorem d_RR_areArches_3 : decode prog_1_method_43_code 3 = .ok (.istore 4, 2) := by decide +kernel
theorem d_RR_areArches_5 : decode prog_1_method_43_code 5 = .ok (.iload 4, 2) := by decide +kernel
theorem d_RR_areArches_7 : decode prog_1_method_43_code 7 = .ok (.iconst 2, 1) := by decide +kernel
theorem d_RR_areArches_8 : decode prog_1_method_43_code 8 = .ok (.iload_n 0, 1) := by decide +kernel
theorem d_RR_areArches_9 : decode prog_1_method_43_code 9 = .ok (.imul, 1) := by decide +kernel
theorem d_RR_areArches_10 : decode prog_1_method_43_code 10 = .ok (.if_icmp .ge 32, 3) := by decide +kernel
theorem d_RR_areArches_13 : decode prog_1_method_43_code 13 = .ok (.iload_n 3, 1) := by decide +kernel
theorem d_RR_areArches_14 : decode prog_1_method_43_code 14 = .ok (.lload_n 1, 1) := by decide +kernel
theorem d_RR_areArches_15 : decode prog_1_method_43_code 15 = .ok (.iload 4, 2) := by decide +kernel
theorem d_RR_areArches_17 : decode prog_1_method_43_code 17 = .ok (.invokestatic 178, 3) := by decide +kernel
theorem d_RR_areArches_20 : decode prog_1_method_43_code 20 = .ok (.ifCond .eq 7, 3) := by decide +kernel
theorem d_RR_areArches_23 : decode prog_1_method_43_code 23 = .ok (.iconst 1, 1) := by decide +kernel
theorem d_RR_areArches_24 : decode prog_1_method_43_code 24 = .ok (.goto 4, 3) := by decide +kernel
theorem d_RR_areArches_27 : decode prog_1_method_43_code 27 = .ok (.iconst (-1), 1) := by decide +kernel
theorem d_RR_areArches_28 : decode prog_1_method_43_code 28 = .ok (.iadd, 1) := by decide +kernel
theorem d_RR_areArches_29 : decode prog_1_method_43_code 29 = .ok (.istore_n 3, 1) := by decide +kernel
theorem d_RR_areArches_30 : decode prog_1_method_43_code 30 = .ok (.iload_n 3, 1) := by decide +kernel
theorem d_RR_areArches_31 : decode prog_1_method_43_code 31 = .ok (.ifCond .ge 5, 3) := by decide +kernel
theorem d_RR_areArches_34 : decode prog_1_method_43_code 34 = .ok (.iconst 0, 1) := by decide +kernel
theorem d_RR_areArches_35 : decode prog_1_method_43_code 35 = .ok (.ireturn, 1) := by decide +kernel
theorem d_RR_areArches_36 : decode prog_1_method_43_code 36 = .ok (.iinc 4 1, 3) := by decide +kernel
theorem d_RR_areArches_39 : decode prog_1_method_43_code 39 = .ok (.goto (-34), 3) := by decide +kernel
theorem d_RR_areArches_42 : decode prog_1_method_43_code 42 = .ok (.iload_n 3, 1) := by decide +kernel
theorem d_RR_areArches_43 : decode prog_1_method_43_code 43 = .ok (.ifCond .ne 7, 3) := by decide +kernel
theorem d_RR_areArches_46 : decode prog_1_method_43_code 46 = .ok (.iconst 1, 1) := by decide +kernel
theorem d_RR_areArches_47 : decode prog_1_method_43_code 47 = .ok (.goto 4, 3) := by decide +kernel
theorem d_RR_areArches_50 : decode prog_1_method_43_code 50 = .ok (.iconst 0, 1) := by decide +kernel
theorem d_RR_areArches_51 : decode prog_1_method_43_code 51 = .ok (.ireturn, 1) := by decide +kernel
theorem d_RR_isPlus_0 : decode prog_1_method_39_code 0 = .ok (.lload_n 0, 1) := by decide +kernel
theorem d_RR_isPlus_1 : decode prog_1_method_39_code 1 = .ok (.iload_n 2, 1) := by decide +kernel
theorem d_RR_isPlus_2 : decode prog_1_method_39_code 2 = .ok (.lshr, 1) := by decide +kernel
theorem d_RR_isPlus_3 : decode prog_1_method_39_code 3 = .ok (.lconst 1, 1) := by decide +kernel
theorem d_RR_isPlus_4 : decode prog_1_method_39_code 4 = .ok (.land, 1) := by decide +kernel
theorem d_RR_isPlus_5 : decode prog_1_method_39_code 5 = .ok (.lconst 0, 1) := by decide +kernel
theorem d_RR_isPlus_6 : decode prog_1_method_39_code 6 = .ok (.lcmp, 1) := by decide +kernel
theorem d_RR_isPlus_7 : decode prog_1_method_39_code 7 = .ok (.ifCond .eq 7, 3) := by decide +kernel
theorem d_RR_isPlus_10 : decode prog_1_method_39_code 10 = .ok (.iconst 1, 1) := by decide +kernel
theorem d_RR_isPlus_11 : decode prog_1_method_39_code 11 = .ok (.goto 4, 3) := by decide +kernel
theorem d_RR_isPlus_14 : decode prog_1_method_39_code 14 = .ok (.iconst 0, 1) := by decide +kernel
theorem d_RR_isPlus_15 : decode prog_1_method_39_code 15 = .ok (.ireturn, 1) := by decide +kernel
theorem d_RR_archesOf_0 : decode prog_1_method_44_code 0 = .ok (.iload_n 0, 1) := by decide +kernel
theorem d_RR_archesOf_1 : decode prog_1_method_44_code 1 = .ok (.lload_n 1, 1) := by decide +kernel
theorem d_RR_archesOf_2 : decode prog_1_method_44_code 2 = .ok (.invokestatic 246, 3) := by decide +kernel
theorem d_RR_archesOf_5 : decode prog_1_method_44_code 5 = .ok (.astore_n 3, 1) := by decide +kernel
theorem d_RR_archesOf_6 : decode prog_1_method_44_code 6 = .ok (.lload_n 1, 1) := by decide +kernel
theorem d_RR_archesOf_7 : decode prog_1_method_44_code 7 = .ok (.ldc2_w 250, 3) := by decide +kernel
theorem d_RR_archesOf_10 : decode prog_1_method_44_code 10 = .ok (.lconst 1, 1) := by decide +kernel
theorem d_RR_archesOf_11 : decode prog_1_method_44_code 11 = .ok (.iconst 2, 1) := by decide +kernel
theorem d_RR_archesOf_12 : decode prog_1_method_44_code 12 = .ok (.iload_n 0, 1) := by decide +kernel
theorem d_RR_archesOf_13 : decode prog_1_method_44_code 13 = .ok (.imul, 1) := by decide +kernel
theorem d_RR_archesOf_14 : decode prog_1_method_44_code 14 = .ok (.lshl, 1) := by decide +kernel
theorem d_RR_archesOf_15 : decode prog_1_method_44_code 15 = .ok (.lconst 1, 1) := by decide +kernel
theorem d_RR_archesOf_16 : decode prog_1_method_44_code 16 = .ok (.lsub, 1) := by decide +kernel
theorem d_RR_archesOf_17 : decode prog_1_method_44_code 17 = .ok (.land, 1) := by decide +kernel
theorem d_RR_archesOf_18 : decode prog_1_method_44_code 18 = .ok (.lcmp, 1) := by decide +kernel
theorem d_RR_archesOf_19 : decode prog_1_method_44_code 19 = .ok (.ifCond .ne 14, 3) := by decide +kernel
theorem d_RR_archesOf_22 : decode prog_1_method_44_code 22 = .ok (.new 233, 3) := by decide +kernel
theorem d_RR_archesOf_25 : decode prog_1_method_44_code 25 = .ok (.dup, 1) := by decide +kernel
theorem d_RR_archesOf_26 : decode prog_1_method_44_code 26 = .ok (.iload_n 0, 1) := by decide +kernel
theorem d_RR_archesOf_27 : decode prog_1_method_44_code 27 = .ok (.lload_n 1, 1) := by decide +kernel
theorem d_RR_archesOf_28 : decode prog_1_method_44_code 28 = .ok (.aload_n 3, 1) := by decide +kernel
theorem d_RR_archesOf_29 : decode prog_1_method_44_code 29 = .ok (.invokespecial 252, 3) := by decide +kernel
theorem d_RR_archesOf_32 : decode prog_1_method_44_code 32 = .ok (.areturn, 1) := by decide +kernel
theorem d_RR_archesOf_33 : decode prog_1_method_44_code 33 = .ok (.lload_n 1, 1) := by decide +kernel
theorem d_RR_archesOf_34 : decode prog_1_method_44_code 34 = .ok (.lconst 1, 1) := by decide +kernel
theorem d_RR_archesOf_35 : decode prog_1_method_44_code 35 = .ok (.iload_n 0, 1) := by decide +kernel
theorem d_RR_archesOf_36 : decode prog_1_method_44_code 36 = .ok (.lshl, 1) := by decide +kernel
theorem d_RR_archesOf_37 : decode prog_1_method_44_code 37 = .ok (.lconst 1, 1) := by decide +kernel
theorem d_RR_archesOf_38 : decode prog_1_method_44_code 38 = .ok (.lsub, 1) := by decide +kernel
theorem d_RR_archesOf_39 : decode prog_1_method_44_code 39 = .ok (.lcmp, 1) := by decide +kernel
theorem d_RR_archesOf_40 : decode prog_1_method_44_code 40 = .ok (.ifCond .ne 14, 3) := by decide +kernel
theorem d_RR_archesOf_43 : decode prog_1_method_44_code 43 = .ok (.new 231, 3) := by decide +kernel
theorem d_RR_archesOf_46 : decode prog_1_method_44_code 46 = .ok (.dup, 1) := by decide +kernel
theorem d_RR_archesOf_47 : decode prog_1_method_44_code 47 = .ok (.iload_n 0, 1) := by decide +kernel
theorem d_RR_archesOf_48 : decode prog_1_method_44_code 48 = .ok (.lload_n 1, 1) := by decide +kernel
theorem d_RR_archesOf_49 : decode prog_1_method_44_code 49 = .ok (.aload_n 3, 1) := by decide +kernel
theorem d_RR_archesOf_50 : decode prog_1_method_44_code 50 = .ok (.invokespecial 255, 3) := by decide +kernel
theorem d_RR_archesOf_53 : decode prog_1_method_44_code 53 = .ok (.areturn, 1) := by decide +kernel
theorem d_RR_archesOf_54 : decode prog_1_method_44_code 54 = .ok (.new 91, 3) := by decide +kernel
theorem d_RR_archesOf_57 : decode prog_1_method_44_code 57 = .ok (.dup, 1) := by decide +kernel
theorem d_RR_archesOf_58 : decode prog_1_method_44_code 58 = .ok (.iload_n 0, 1) := by decide +kernel
theorem d_RR_archesOf_59 : decode prog_1_method_44_code 59 = .ok (.lload_n 1, 1) := by decide +kernel
theorem d_RR_archesOf_60 : decode prog_1_method_44_code 60 = .ok (.aload_n 3, 1) := by decide +kernel
theorem d_RR_archesOf_61 : decode prog_1_method_44_code 61 = .ok (.invokespecial 256, 3) := by decide +kernel
theorem d_RR_archesOf_64 : decode prog_1_method_44_code 64 = .ok (.areturn, 1) := by decide +kernel
theorem d_RR_partnersOf_0 : decode prog_1_method_45_code 0 = .ok (.iconst 2, 1) := by decide +kernel
theorem d_RR_partnersOf_1 : decode prog_1_method_45_code 1 = .ok (.iload_n 0, 1) := by decide +kernel
theorem d_RR_partnersOf_2 : decode prog_1_method_45_code 2 = .ok (.imul, 1) := by decide +kernel
theorem d_RR_partnersOf_3 : decode prog_1_method_45_code 3 = .ok (.newarray .int, 2) := by decide +kernel
theorem d_RR_partnersOf_5 : decode prog_1_method_45_code 5 = .ok (.astore_n 3, 1) := by decide +kernel
theorem d_RR_partnersOf_6 : decode prog_1_method_45_code 6 = .ok (.iconst (-1), 1) := by decide +kernel
theorem d_RR_partnersOf_7 : decode prog_1_method_45_code 7 = .ok (.istore 4, 2) := by decide +kernel
theorem d_RR_partnersOf_9 : decode prog_1_method_45_code 9 = .ok (.iconst 0, 1) := by decide +kernel
theorem d_RR_partnersOf_10 : decode prog_1_method_45_code 10 = .ok (.istore 5, 2) := by decide +kernel
theorem d_RR_partnersOf_12 : decode prog_1_method_45_code 12 = .ok (.iload 5, 2) := by decide +kernel
theorem d_RR_partnersOf_14 : decode prog_1_method_45_code 14 = .ok (.iconst 2, 1) := by decide +kernel
theorem d_RR_partnersOf_15 : decode prog_1_method_45_code 15 = .ok (.iload_n 0, 1) := by decide +kernel
theorem d_RR_partnersOf_16 : decode prog_1_method_45_code 16 = .ok (.imul, 1) := by decide +kernel
theorem d_RR_partnersOf_17 : decode prog_1_method_45_code 17 = .ok (.if_icmp .ge 58, 3) := by decide +kernel
theorem d_RR_partnersOf_20 : decode prog_1_method_45_code 20 = .ok (.lload_n 1, 1) := by decide +kernel
theorem d_RR_partnersOf_21 : decode prog_1_method_45_code 21 = .ok (.iload 5, 2) := by decide +kernel
theorem d_RR_partnersOf_23 : decode prog_1_method_45_code 23 = .ok (.invokestatic 178, 3) := by decide +kernel
theorem d_RR_partnersOf_26 : decode prog_1_method_45_code 26 = .ok (.ifCond .eq 16, 3) := by decide +kernel
theorem d_RR_partnersOf_29 : decode prog_1_method_45_code 29 = .ok (.aload_n 3, 1) := by decide +kernel
theorem d_RR_partnersOf_30 : decode prog_1_method_45_code 30 = .ok (.iload 5, 2) := by decide +kernel
theorem d_RR_partnersOf_32 : decode prog_1_method_45_code 32 = .ok (.iload 4, 2) := by decide +kernel
theorem d_RR_partnersOf_34 : decode prog_1_method_45_code 34 = .ok (.iastore, 1) := by decide +kernel
theorem d_RR_partnersOf_35 : decode prog_1_method_45_code 35 = .ok (.iload 5, 2) := by decide +kernel
theorem d_RR_partnersOf_37 : decode prog_1_method_45_code 37 = .ok (.istore 4, 2) := by decide +kernel
theorem d_RR_partnersOf_39 : decode prog_1_method_45_code 39 = .ok (.goto 30, 3) := by decide +kernel
theorem d_RR_partnersOf_42 : decode prog_1_method_45_code 42 = .ok (.iload 4, 2) := by decide +kernel
theorem d_RR_partnersOf_44 : decode prog_1_method_45_code 44 = .ok (.ifCond .lt 25, 3) := by decide +kernel
theorem d_RR_partnersOf_47 : decode prog_1_method_45_code 47 = .ok (.iload 4, 2) := by decide +kernel
theorem d_RR_partnersOf_49 : decode prog_1_method_45_code 49 = .ok (.istore 6, 2) := by decide +kernel
theorem d_RR_partnersOf_51 : decode prog_1_method_45_code 51 = .ok (.aload_n 3, 1) := by decide +kernel
theorem d_RR_partnersOf_52 : decode prog_1_method_45_code 52 = .ok (.iload 6, 2) := by decide +kernel
theorem d_RR_partnersOf_54 : decode prog_1_method_45_code 54 = .ok (.iaload, 1) := by decide +kernel
theorem d_RR_partnersOf_55 : decode prog_1_method_45_code 55 = .ok (.istore 4, 2) := by decide +kernel
theorem d_RR_partnersOf_57 : decode prog_1_method_45_code 57 = .ok (.aload_n 3, 1) := by decide +kernel
theorem d_RR_partnersOf_58 : decode prog_1_method_45_code 58 = .ok (.iload 6, 2) := by decide +kernel
theorem d_RR_partnersOf_60 : decode prog_1_method_45_code 60 = .ok (.iload 5, 2) := by decide +kernel
theorem d_RR_partnersOf_62 : decode prog_1_method_45_code 62 = .ok (.iastore, 1) := by decide +kernel
theorem d_RR_partnersOf_63 : decode prog_1_method_45_code 63 = .ok (.aload_n 3, 1) := by decide +kernel
theorem d_RR_partnersOf_64 : decode prog_1_method_45_code 64 = .ok (.iload 5, 2) := by decide +kernel
theorem d_RR_partnersOf_66 : decode prog_1_method_45_code 66 = .ok (.iload 6, 2) := by decide +kernel
theorem d_RR_partnersOf_68 : decode prog_1_method_45_code 68 = .ok (.iastore, 1) := by decide +kernel
theorem d_RR_partnersOf_69 : decode prog_1_method_45_code 69 = .ok (.iinc 5 1, 3) := by decide +kernel
theorem d_RR_partnersOf_72 : decode prog_1_method_45_code 72 = .ok (.goto (-60), 3) := by decide +kernel
theorem d_RR_partnersOf_75 : decode prog_1_method_45_code 75 = .ok (.aload_n 3, 1) := by decide +kernel
theorem d_RR_partnersOf_76 : decode prog_1_method_45_code 76 = .ok (.areturn, 1) := by decide +kernel
theorem d_Pe_init_0 : decode prog_7_method_1_code 0 = .ok (.aload_n 0, 1) := by decide +kernel
theorem d_Pe_init_1 : decode prog_7_method_1_code 1 = .ok (.iload_n 1, 1) := by decide +kernel
theorem d_Pe_init_2 : decode prog_7_method_1_code 2 = .ok (.lload_n 2, 1) := by decide +kernel
theorem d_Pe_init_3 : decode prog_7_method_1_code 3 = .ok (.aload 4, 2) := by decide +kernel
theorem d_Pe_init_5 : decode prog_7_method_1_code 5 = .ok (.invokespecial 1, 3) := by decide +kernel
theorem d_Pe_init_8 : decode prog_7_method_1_code 8 = .ok (.return_, 1) := by decide +kernel
theorem d_Ar_init_0 : decode prog_2_method_1_code 0 = .ok (.aload_n 0, 1) := by decide +kernel
theorem d_Ar_init_1 : decode prog_2_method_1_code 1 = .ok (.iload_n 1, 1) := by decide +kernel
theorem d_Ar_init_2 : decode prog_2_method_1_code 2 = .ok (.lload_n 2, 1) := by decide +kernel
theorem d_Ar_init_3 : decode prog_2_method_1_code 3 = .ok (.invokespecial 1, 3) := by decide +kernel
theorem d_Ar_init_6 : decode prog_2_method_1_code 6 = .ok (.aload_n 0, 1) := by decide +kernel
theorem d_Ar_init_7 : decode prog_2_method_1_code 7 = .ok (.aload 4, 2) := by decide +kernel
theorem d_Ar_init_9 : decode prog_2_method_1_code 9 = .ok (.putfield 7, 3) := by decide +kernel
theorem d_Ar_init_12 : decode prog_2_method_1_code 12 = .ok (.return_, 1) := by decide +kernel
theorem d_Row_init_0 : decode prog_8_method_1_code 0 = .ok (.aload_n 0, 1) := by decide +kernel
theorem d_Row_init_1 : decode prog_8_method_1_code 1 = .ok (.iload_n 1, 1) := by decide +kernel
theorem d_Row_init_2 : decode prog_8_method_1_code 2 = .ok (.invokespecial 1, 3) := by decide +kernel
theorem d_Row_init_5 : decode prog_8_method_1_code 5 = .ok (.aload_n 0, 1) := by decide +kernel
theorem d_Row_init_6 : decode prog_8_method_1_code 6 = .ok (.lload_n 2, 1) := by decide +kernel
theorem d_Row_init_7 : decode prog_8_method_1_code 7 = .ok (.putfield 7, 3) := by decide +kernel
theorem d_Row_init_10 : decode prog_8_method_1_code 10 = .ok (.return_, 1) := by decide +kernel
theorem d_Th_init_0 : decode prog_11_method_1_code 0 = .ok (.aload_n 0, 1) := by decide +kernel
theorem d_Th_init_1 : decode prog_11_method_1_code 1 = .ok (.invokespecial 1, 3) := by decide +kernel
theorem d_Th_init_4 : decode prog_11_method_1_code 4 = .ok (.aload_n 0, 1) := by decide +kernel
theorem d_Th_init_5 : decode prog_11_method_1_code 5 = .ok (.iload_n 1, 1) := by decide +kernel
theorem d_Th_init_6 : decode prog_11_method_1_code 6 = .ok (.putfield 7, 3) := by decide +kernel
theorem d_Th_init_9 : decode prog_11_method_1_code 9 = .ok (.return_, 1) := by decide +kernel
theorem d_Ne_init_0 : decode prog_6_method_1_code 0 = .ok (.aload_n 0, 1) := by decide +kernel
theorem d_Ne_init_1 : decode prog_6_method_1_code 1 = .ok (.iload_n 1, 1) := by decide +kernel
theorem d_Ne_init_2 : decode prog_6_method_1_code 2 = .ok (.lload_n 2, 1) := by decide +kernel
theorem d_Ne_init_3 : decode prog_6_method_1_code 3 = .ok (.aload 4, 2) := by decide +kernel
theorem d_Ne_init_5 : decode prog_6_method_1_code 5 = .ok (.invokespecial 1, 3) := by decide +kernel
theorem d_Ne_init_8 : decode prog_6_method_1_code 8 = .ok (.return_, 1) := by decide +kernel
theorem d_RR_shelve_0 : decode prog_1_method_35_code 0 = .ok (.aload_n 0, 1) := by decide +kernel
theorem d_RR_shelve_1 : decode prog_1_method_35_code 1 = .ok (.getfield 17, 3) := by decide +kernel
theorem d_RR_shelve_4 : decode prog_1_method_35_code 4 = .ok (.iload_n 1, 1) := by decide +kernel
theorem d_RR_shelve_5 : decode prog_1_method_35_code 5 = .ok (.aload_n 2, 1) := by decide +kernel
theorem d_RR_shelve_6 : decode prog_1_method_35_code 6 = .ok (.aastore, 1) := by decide +kernel
theorem d_RR_shelve_7 : decode prog_1_method_35_code 7 = .ok (.aload_n 0, 1) := by decide +kernel
theorem d_RR_shelve_8 : decode prog_1_method_35_code 8 = .ok (.aload_n 2, 1) := by decide +kernel
theorem d_RR_shelve_9 : decode prog_1_method_35_code 9 = .ok (.invokevirtual 146, 3) := by decide +kernel
theorem d_RR_shelve_12 : decode prog_1_method_35_code 12 = .ok (.invokevirtual 58, 3) := by decide +kernel
theorem d_RR_shelve_15 : decode prog_1_method_35_code 15 = .ok (.ireturn, 1) := by decide +kernel
theorem d_Ar_told_0 : decode prog_2_method_2_code 0 = .ok (.iconst 2, 1) := by decide +kernel
theorem d_Ar_told_1 : decode prog_2_method_2_code 1 = .ok (.ireturn, 1) := by decide +kernel
theorem d_Fo_told_0 : decode prog_3_method_2_code 0 = .ok (.bipush 8, 2) := by decide +kernel
theorem d_Fo_told_2 : decode prog_3_method_2_code 2 = .ok (.ireturn, 1) := by decide +kernel
theorem d_La_told_0 : decode prog_4_method_3_code 0 = .ok (.iconst 5, 1) := by decide +kernel
theorem d_La_told_1 : decode prog_4_method_3_code 1 = .ok (.ireturn, 1) := by decide +kernel
theorem d_Lo_told_0 : decode prog_5_method_2_code 0 = .ok (.bipush 6, 2) := by decide +kernel
theorem d_Lo_told_2 : decode prog_5_method_2_code 2 = .ok (.ireturn, 1) := by decide +kernel
theorem d_Ne_told_0 : decode prog_6_method_2_code 0 = .ok (.iconst 3, 1) := by decide +kernel
theorem d_Ne_told_1 : decode prog_6_method_2_code 1 = .ok (.ireturn, 1) := by decide +kernel
theorem d_Pe_told_0 : decode prog_7_method_2_code 0 = .ok (.iconst 4, 1) := by decide +kernel
theorem d_Pe_told_1 : decode prog_7_method_2_code 1 = .ok (.ireturn, 1) := by decide +kernel
theorem d_Row_told_0 : decode prog_8_method_2_code 0 = .ok (.iconst 1, 1) := by decide +kernel
theorem d_Row_told_1 : decode prog_8_method_2_code 1 = .ok (.ireturn, 1) := by decide +kernel
theorem d_St_told_0 : decode prog_10_method_2_code 0 = .ok (.bipush 7, 2) := by decide +kernel
theorem d_St_told_2 : decode prog_10_method_2_code 2 = .ok (.ireturn, 1) := by decide +kernel
theorem d_RR_land_0 : decode prog_1_method_7_code 0 = .ok (.iload_n 1, 1) := by decide +kernel
theorem d_RR_land_1 : decode prog_1_method_7_code 1 = .ok (.invokestatic 80, 3) := by decide +kernel
theorem d_RR_land_4 : decode prog_1_method_7_code 4 = .ok (.ifCond .eq 17, 3) := by decide +kernel
theorem d_RR_land_7 : decode prog_1_method_7_code 7 = .ok (.iload_n 2, 1) := by decide +kernel
theorem d_RR_land_8 : decode prog_1_method_7_code 8 = .ok (.invokestatic 80, 3) := by decide +kernel
theorem d_RR_land_11 : decode prog_1_method_7_code 11 = .ok (.ifCond .eq 10, 3) := by decide +kernel
theorem d_RR_land_14 : decode prog_1_method_7_code 14 = .ok (.iload_n 3, 1) := by decide +kernel
theorem d_RR_land_15 : decode prog_1_method_7_code 15 = .ok (.invokestatic 80, 3) := by decide +kernel
theorem d_RR_land_18 : decode prog_1_method_7_code 18 = .ok (.ifCond .ne 6, 3) := by decide +kernel
theorem d_RR_land_21 : decode prog_1_method_7_code 21 = .ok (.ldc 50, 2) := by decide +kernel
theorem d_RR_land_23 : decode prog_1_method_7_code 23 = .ok (.ireturn, 1) := by decide +kernel
theorem d_RR_land_24 : decode prog_1_method_7_code 24 = .ok (.aload_n 0, 1) := by decide +kernel
theorem d_RR_land_25 : decode prog_1_method_7_code 25 = .ok (.getfield 17, 3) := by decide +kernel
theorem d_RR_land_28 : decode prog_1_method_7_code 28 = .ok (.iload_n 2, 1) := by decide +kernel
theorem d_RR_land_29 : decode prog_1_method_7_code 29 = .ok (.aaload, 1) := by decide +kernel
theorem d_RR_land_30 : decode prog_1_method_7_code 30 = .ok (.astore 5, 2) := by decide +kernel
theorem d_RR_land_32 : decode prog_1_method_7_code 32 = .ok (.aload 5, 2) := by decide +kernel
theorem d_RR_land_34 : decode prog_1_method_7_code 34 = .ok (.instanceof 91, 3) := by decide +kernel
theorem d_RR_land_37 : decode prog_1_method_7_code 37 = .ok (.ifCond .eq 13, 3) := by decide +kernel
theorem d_RR_land_40 : decode prog_1_method_7_code 40 = .ok (.aload 5, 2) := by decide +kernel
theorem d_RR_land_42 : decode prog_1_method_7_code 42 = .ok (.checkcast 91, 3) := by decide +kernel
theorem d_RR_land_45 : decode prog_1_method_7_code 45 = .ok (.astore 4, 2) := by decide +kernel
theorem d_RR_land_47 : decode prog_1_method_7_code 47 = .ok (.goto 9, 3) := by decide +kernel
theorem d_RR_land_50 : decode prog_1_method_7_code 50 = .ok (.aload_n 0, 1) := by decide +kernel
theorem d_RR_land_51 : decode prog_1_method_7_code 51 = .ok (.iload_n 2, 1) := by decide +kernel
theorem d_RR_land_52 : decode prog_1_method_7_code 52 = .ok (.invokevirtual 93, 3) := by decide +kernel
theorem d_RR_land_55 : decode prog_1_method_7_code 55 = .ok (.ireturn, 1) := by decide +kernel
theorem d_RR_land_56 : decode prog_1_method_7_code 56 = .ok (.aload_n 0, 1) := by decide +kernel
theorem d_RR_land_57 : decode prog_1_method_7_code 57 = .ok (.getfield 17, 3) := by decide +kernel
theorem d_RR_land_60 : decode prog_1_method_7_code 60 = .ok (.iload_n 3, 1) := by decide +kernel
theorem d_RR_land_61 : decode prog_1_method_7_code 61 = .ok (.aaload, 1) := by decide +kernel
theorem d_RR_land_62 : decode prog_1_method_7_code 62 = .ok (.astore 6, 2) := by decide +kernel
theorem d_RR_land_64 : decode prog_1_method_7_code 64 = .ok (.aload 6, 2) := by decide +kernel
theorem d_RR_land_66 : decode prog_1_method_7_code 66 = .ok (.instanceof 91, 3) := by decide +kernel
theorem d_RR_land_69 : decode prog_1_method_7_code 69 = .ok (.ifCond .eq 13, 3) := by decide +kernel
theorem d_RR_land_72 : decode prog_1_method_7_code 72 = .ok (.aload 6, 2) := by decide +kernel
theorem d_RR_land_74 : decode prog_1_method_7_code 74 = .ok (.checkcast 91, 3) := by decide +kernel
theorem d_RR_land_77 : decode prog_1_method_7_code 77 = .ok (.astore 5, 2) := by decide +kernel
theorem d_RR_land_79 : decode prog_1_method_7_code 79 = .ok (.goto 9, 3) := by decide +kernel
theorem d_RR_land_82 : decode prog_1_method_7_code 82 = .ok (.aload_n 0, 1) := by decide +kernel
theorem d_RR_land_83 : decode prog_1_method_7_code 83 = .ok (.iload_n 3, 1) := by decide +kernel
theorem d_RR_land_84 : decode prog_1_method_7_code 84 = .ok (.invokevirtual 93, 3) := by decide +kernel
theorem d_RR_land_87 : decode prog_1_method_7_code 87 = .ok (.ireturn, 1) := by decide +kernel
theorem d_RR_land_88 : decode prog_1_method_7_code 88 = .ok (.aload 4, 2) := by decide +kernel
theorem d_RR_land_90 : decode prog_1_method_7_code 90 = .ok (.getfield 96, 3) := by decide +kernel
theorem d_RR_land_93 : decode prog_1_method_7_code 93 = .ok (.aload 5, 2) := by decide +kernel
theorem d_RR_land_95 : decode prog_1_method_7_code 95 = .ok (.getfield 96, 3) := by decide +kernel
theorem d_RR_land_98 : decode prog_1_method_7_code 98 = .ok (.if_icmp .eq 6, 3) := by decide +kernel
theorem d_RR_land_101 : decode prog_1_method_7_code 101 = .ok (.ldc 50, 2) := by decide +kernel
theorem d_RR_land_103 : decode prog_1_method_7_code 103 = .ok (.ireturn, 1) := by decide +kernel
theorem d_RR_land_104 : decode prog_1_method_7_code 104 = .ok (.aload_n 0, 1) := by decide +kernel
theorem d_RR_land_105 : decode prog_1_method_7_code 105 = .ok (.iload_n 1, 1) := by decide +kernel
theorem d_RR_land_106 : decode prog_1_method_7_code 106 = .ok (.aload 4, 2) := by decide +kernel
theorem d_RR_land_108 : decode prog_1_method_7_code 108 = .ok (.aload 5, 2) := by decide +kernel
theorem d_RR_land_110 : decode prog_1_method_7_code 110 = .ok (.invokestatic 99, 3) := by decide +kernel
theorem d_RR_land_113 : decode prog_1_method_7_code 113 = .ok (.invokevirtual 87, 3) := by decide +kernel
theorem d_RR_land_116 : decode prog_1_method_7_code 116 = .ok (.ireturn, 1) := by decide +kernel
theorem d_RR_notThat_0 : decode prog_1_method_33_code 0 = .ok (.aload_n 0, 1) := by decide +kernel
theorem d_RR_notThat_1 : decode prog_1_method_33_code 1 = .ok (.aload_n 0, 1) := by decide +kernel
theorem d_RR_notThat_2 : decode prog_1_method_33_code 2 = .ok (.getfield 17, 3) := by decide +kernel
theorem d_RR_notThat_5 : decode prog_1_method_33_code 5 = .ok (.iload_n 1, 1) := by decide +kernel
theorem d_RR_notThat_6 : decode prog_1_method_33_code 6 = .ok (.aaload, 1) := by decide +kernel
theorem d_RR_notThat_7 : decode prog_1_method_33_code 7 = .ok (.ifnonnull 7, 3) := by decide +kernel
theorem d_RR_notThat_10 : decode prog_1_method_33_code 10 = .ok (.iconst 1, 1) := by decide +kernel
theorem d_RR_notThat_11 : decode prog_1_method_33_code 11 = .ok (.goto 4, 3) := by decide +kernel
theorem d_RR_notThat_14 : decode prog_1_method_33_code 14 = .ok (.iconst 3, 1) := by decide +kernel
theorem d_RR_notThat_15 : decode prog_1_method_33_code 15 = .ok (.invokevirtual 51, 3) := by decide +kernel
theorem d_RR_notThat_18 : decode prog_1_method_33_code 18 = .ok (.ireturn, 1) := by decide +kernel
theorem d_RR_landOf_0 : decode prog_1_method_52_code 0 = .ok (.iconst 2, 1) := by decide +kernel
theorem d_RR_landOf_1 : decode prog_1_method_52_code 1 = .ok (.aload_n 0, 1) := by decide +kernel
theorem d_RR_landOf_2 : decode prog_1_method_52_code 2 = .ok (.getfield 96, 3) := by decide +kernel
theorem d_RR_landOf_5 : decode prog_1_method_52_code 5 = .ok (.imul, 1) := by decide +kernel
theorem d_RR_landOf_6 : decode prog_1_method_52_code 6 = .ok (.newarray .int, 2) := by decide +kernel
theorem d_RR_landOf_8 : decode prog_1_method_52_code 8 = .ok (.astore_n 2, 1) := by decide +kernel
theorem d_RR_landOf_9 : decode prog_1_method_52_code 9 = .ok (.aload_n 0, 1) := by decide +kernel
theorem d_RR_landOf_10 : decode prog_1_method_52_code 10 = .ok (.getfield 130, 3) := by decide +kernel
theorem d_RR_landOf_13 : decode prog_1_method_52_code 13 = .ok (.aload_n 1, 1) := by decide +kernel
theorem d_RR_landOf_14 : decode prog_1_method_52_code 14 = .ok (.getfield 130, 3) := by decide +kernel
theorem d_RR_landOf_17 : decode prog_1_method_52_code 17 = .ok (.aload_n 2, 1) := by decide +kernel
theorem d_RR_landOf_18 : decode prog_1_method_52_code 18 = .ok (.invokestatic 260, 3) := by decide +kernel
theorem d_RR_landOf_21 : decode prog_1_method_52_code 21 = .ok (.istore_n 3, 1) := by decide +kernel
theorem d_RR_landOf_22 : decode prog_1_method_52_code 22 = .ok (.iload_n 3, 1) := by decide +kernel
theorem d_RR_landOf_23 : decode prog_1_method_52_code 23 = .ok (.iconst 1, 1) := by decide +kernel
theorem d_RR_landOf_24 : decode prog_1_method_52_code 24 = .ok (.if_icmp .ne 16, 3) := by decide +kernel
theorem d_RR_landOf_27 : decode prog_1_method_52_code 27 = .ok (.new 235, 3) := by decide +kernel
theorem d_RR_landOf_30 : decode prog_1_method_52_code 30 = .ok (.dup, 1) := by decide +kernel
theorem d_RR_landOf_31 : decode prog_1_method_52_code 31 = .ok (.aload_n 0, 1) := by decide +kernel
theorem d_RR_landOf_32 : decode prog_1_method_52_code 32 = .ok (.aload_n 1, 1) := by decide +kernel
theorem d_RR_landOf_33 : decode prog_1_method_52_code 33 = .ok (.aload_n 2, 1) := by decide +kernel
theorem d_RR_landOf_34 : decode prog_1_method_52_code 34 = .ok (.invokespecial 264, 3) := by decide +kernel
theorem d_RR_landOf_37 : decode prog_1_method_52_code 37 = .ok (.goto 14, 3) := by decide +kernel
theorem d_RR_landOf_40 : decode prog_1_method_52_code 40 = .ok (.new 137, 3) := by decide +kernel
theorem d_RR_landOf_43 : decode prog_1_method_52_code 43 = .ok (.dup, 1) := by decide +kernel
theorem d_RR_landOf_44 : decode prog_1_method_52_code 44 = .ok (.aload_n 0, 1) := by decide +kernel
theorem d_RR_landOf_45 : decode prog_1_method_52_code 45 = .ok (.aload_n 1, 1) := by decide +kernel
theorem d_RR_landOf_46 : decode prog_1_method_52_code 46 = .ok (.aload_n 2, 1) := by decide +kernel
theorem d_RR_landOf_47 : decode prog_1_method_52_code 47 = .ok (.iload_n 3, 1) := by decide +kernel
theorem d_RR_landOf_48 : decode prog_1_method_52_code 48 = .ok (.invokespecial 267, 3) := by decide +kernel
theorem d_RR_landOf_51 : decode prog_1_method_52_code 51 = .ok (.areturn, 1) := by decide +kernel
theorem d_RR_numberLoops_0 : decode prog_1_method_53_code 0 = .ok (.aload_n 2, 1) := by decide +kernel
theorem d_RR_numberLoops_1 : decode prog_1_method_53_code 1 = .ok (.ldc 117, 2) := by decide +kernel
theorem d_RR_numberLoops_3 : decode prog_1_method_53_code 3 = .ok (.invokestatic 270, 3) := by decide +kernel
theorem d_RR_numberLoops_6 : decode prog_1_method_53_code 6 = .ok (.iconst 0, 1) := by decide +kernel
theorem d_RR_numberLoops_7 : decode prog_1_method_53_code 7 = .ok (.istore_n 3, 1) := by decide +kernel
theorem d_RR_numberLoops_8 : decode prog_1_method_53_code 8 = .ok (.iconst 0, 1) := by decide +kernel
theorem d_RR_numberLoops_9 : decode prog_1_method_53_code 9 = .ok (.istore 4, 2) := by decide +kernel
theorem d_RR_numberLoops_11 : decode prog_1_method_53_code 11 = .ok (.iload 4, 2) := by decide +kernel
theorem d_RR_numberLoops_13 : decode prog_1_method_53_code 13 = .ok (.aload_n 2, 1) := by decide +kernel
theorem d_RR_numberLoops_14 : decode prog_1_method_53_code 14 = .ok (.arraylength, 1) := by decide +kernel
theorem d_RR_numberLoops_15 : decode prog_1_method_53_code 15 = .ok (.if_icmp .ge 74, 3) := by decide +kernel
theorem d_RR_numberLoops_18 : decode prog_1_method_53_code 18 = .ok (.iload 4, 2) := by decide +kernel
theorem d_RR_numberLoops_20 : decode prog_1_method_53_code 20 = .ok (.istore 5, 2) := by decide +kernel
theorem d_RR_numberLoops_22 : decode prog_1_method_53_code 22 = .ok (.iconst 0, 1) := by decide +kernel
theorem d_RR_numberLoops_23 : decode prog_1_method_53_code 23 = .ok (.istore 6, 2) := by decide +kernel
theorem d_RR_numberLoops_25 : decode prog_1_method_53_code 25 = .ok (.iload 6, 2) := by decide +kernel
theorem d_RR_numberLoops_27 : decode prog_1_method_53_code 27 = .ok (.aload_n 2, 1) := by decide +kernel
theorem d_RR_numberLoops_28 : decode prog_1_method_53_code 28 = .ok (.arraylength, 1) := by decide +kernel
theorem d_RR_numberLoops_29 : decode prog_1_method_53_code 29 = .ok (.if_icmp .ge 43, 3) := by decide +kernel
theorem d_RR_numberLoops_32 : decode prog_1_method_53_code 32 = .ok (.aload_n 2, 1) := by decide +kernel
theorem d_RR_numberLoops_33 : decode prog_1_method_53_code 33 = .ok (.iload 5, 2) := by decide +kernel
theorem d_RR_numberLoops_35 : decode prog_1_method_53_code 35 = .ok (.iaload, 1) := by decide +kernel
theorem d_RR_numberLoops_36 : decode prog_1_method_53_code 36 = .ok (.ldc 117, 2) := by decide +kernel
theorem d_RR_numberLoops_38 : decode prog_1_method_53_code 38 = .ok (.if_icmp .ne 34, 3) := by decide +kernel
theorem d_RR_numberLoops_41 : decode prog_1_method_53_code 41 = .ok (.aload_n 2, 1) := by decide +kernel
theorem d_RR_numberLoops_42 : decode prog_1_method_53_code 42 = .ok (.iload 5, 2) := by decide +kernel
theorem d_RR_numberLoops_44 : decode prog_1_method_53_code 44 = .ok (.iload_n 3, 1) := by decide +kernel
theorem d_RR_numberLoops_45 : decode prog_1_method_53_code 45 = .ok (.iastore, 1) := by decide +kernel
theorem d_RR_numberLoops_46 : decode prog_1_method_53_code 46 = .ok (.iload 6, 2) := by decide +kernel
theorem d_RR_numberLoops_48 : decode prog_1_method_53_code 48 = .ok (.iconst 1, 1) := by decide +kernel
theorem d_RR_numberLoops_49 : decode prog_1_method_53_code 49 = .ok (.iand, 1) := by decide +kernel
theorem d_RR_numberLoops_50 : decode prog_1_method_53_code 50 = .ok (.ifCond .ne 10, 3) := by decide +kernel
theorem d_RR_numberLoops_53 : decode prog_1_method_53_code 53 = .ok (.aload_n 0, 1) := by decide +kernel
theorem d_RR_numberLoops_54 : decode prog_1_method_53_code 54 = .ok (.iload 5, 2) := by decide +kernel
theorem d_RR_numberLoops_56 : decode prog_1_method_53_code 56 = .ok (.iaload, 1) := by decide +kernel
theorem d_RR_numberLoops_57 : decode prog_1_method_53_code 57 = .ok (.goto 7, 3) := by decide +kernel
theorem d_RR_numberLoops_60 : decode prog_1_method_53_code 60 = .ok (.aload_n 1, 1) := by decide +kernel
theorem d_RR_numberLoops_61 : decode prog_1_method_53_code 61 = .ok (.iload 5, 2) := by decide +kernel
theorem d_RR_numberLoops_63 : decode prog_1_method_53_code 63 = .ok (.iaload, 1) := by decide +kernel
theorem d_RR_numberLoops_64 : decode prog_1_method_53_code 64 = .ok (.istore 5, 2) := by decide +kernel
theorem d_RR_numberLoops_66 : decode prog_1_method_53_code 66 = .ok (.iinc 6 1, 3) := by decide +kernel
theorem d_RR_numberLoops_69 : decode prog_1_method_53_code 69 = .ok (.goto (-44), 3) := by decide +kernel
theorem d_RR_numberLoops_72 : decode prog_1_method_53_code 72 = .ok (.aload_n 2, 1) := by decide +kernel
theorem d_RR_numberLoops_73 : decode prog_1_method_53_code 73 = .ok (.iload 4, 2) := by decide +kernel
theorem d_RR_numberLoops_75 : decode prog_1_method_53_code 75 = .ok (.iaload, 1) := by decide +kernel
theorem d_RR_numberLoops_76 : decode prog_1_method_53_code 76 = .ok (.iload_n 3, 1) := by decide +kernel
theorem d_RR_numberLoops_77 : decode prog_1_method_53_code 77 = .ok (.if_icmp .ne 6, 3) := by decide +kernel
theorem d_RR_numberLoops_80 : decode prog_1_method_53_code 80 = .ok (.iinc 3 1, 3) := by decide +kernel
theorem d_RR_numberLoops_83 : decode prog_1_method_53_code 83 = .ok (.iinc 4 1, 3) := by decide +kernel
theorem d_RR_numberLoops_86 : decode prog_1_method_53_code 86 = .ok (.goto (-75), 3) := by decide +kernel
theorem d_RR_numberLoops_89 : decode prog_1_method_53_code 89 = .ok (.iload_n 3, 1) := by decide +kernel
theorem d_RR_numberLoops_90 : decode prog_1_method_53_code 90 = .ok (.ireturn, 1) := by decide +kernel
theorem d_JA_fill_0 : decode prog_19_method_103_code 0 = .ok (.iconst 0, 1) := by decide +kernel
theorem d_JA_fill_1 : decode prog_19_method_103_code 1 = .ok (.istore_n 2, 1) := by decide +kernel
theorem d_JA_fill_2 : decode prog_19_method_103_code 2 = .ok (.aload_n 0, 1) := by decide +kernel
theorem d_JA_fill_3 : decode prog_19_method_103_code 3 = .ok (.arraylength, 1) := by decide +kernel
theorem d_JA_fill_4 : decode prog_19_method_103_code 4 = .ok (.istore_n 3, 1) := by decide +kernel
theorem d_JA_fill_5 : decode prog_19_method_103_code 5 = .ok (.iload_n 2, 1) := by decide +kernel
theorem d_JA_fill_6 : decode prog_19_method_103_code 6 = .ok (.iload_n 3, 1) := by decide +kernel
theorem d_JA_fill_7 : decode prog_19_method_103_code 7 = .ok (.if_icmp .ge 13, 3) := by decide +kernel
theorem d_JA_fill_10 : decode prog_19_method_103_code 10 = .ok (.aload_n 0, 1) := by decide +kernel
theorem d_JA_fill_11 : decode prog_19_method_103_code 11 = .ok (.iload_n 2, 1) := by decide +kernel
theorem d_JA_fill_12 : decode prog_19_method_103_code 12 = .ok (.iload_n 1, 1) := by decide +kernel
theorem d_JA_fill_13 : decode prog_19_method_103_code 13 = .ok (.iastore, 1) := by decide +kernel
theorem d_JA_fill_14 : decode prog_19_method_103_code 14 = .ok (.iinc 2 1, 3) := by decide +kernel
theorem d_JA_fill_17 : decode prog_19_method_103_code 17 = .ok (.goto (-12), 3) := by decide +kernel
theorem d_JA_fill_20 : decode prog_19_method_103_code 20 = .ok (.return_, 1) := by decide +kernel
theorem d_Lo_init_0 : decode prog_5_method_1_code 0 = .ok (.aload_n 0, 1) := by decide +kernel
theorem d_Lo_init_1 : decode prog_5_method_1_code 1 = .ok (.aload_n 1, 1) := by decide +kernel
theorem d_Lo_init_2 : decode prog_5_method_1_code 2 = .ok (.aload_n 2, 1) := by decide +kernel
theorem d_Lo_init_3 : decode prog_5_method_1_code 3 = .ok (.aload_n 3, 1) := by decide +kernel
theorem d_Lo_init_4 : decode prog_5_method_1_code 4 = .ok (.iconst 1, 1) := by decide +kernel
theorem d_Lo_init_5 : decode prog_5_method_1_code 5 = .ok (.invokespecial 1, 3) := by decide +kernel
theorem d_Lo_init_8 : decode prog_5_method_1_code 8 = .ok (.return_, 1) := by decide +kernel
theorem d_La_init_0 : decode prog_4_method_1_code 0 = .ok (.aload_n 0, 1) := by decide +kernel
theorem d_La_init_1 : decode prog_4_method_1_code 1 = .ok (.aload_n 1, 1) := by decide +kernel
theorem d_La_init_2 : decode prog_4_method_1_code 2 = .ok (.getfield 1, 3) := by decide +kernel
theorem d_La_init_5 : decode prog_4_method_1_code 5 = .ok (.invokespecial 7, 3) := by decide +kernel
theorem d_La_init_8 : decode prog_4_method_1_code 8 = .ok (.aload_n 0, 1) := by decide +kernel
theorem d_La_init_9 : decode prog_4_method_1_code 9 = .ok (.aload_n 1, 1) := by decide +kernel
theorem d_La_init_10 : decode prog_4_method_1_code 10 = .ok (.putfield 13, 3) := by decide +kernel
theorem d_La_init_13 : decode prog_4_method_1_code 13 = .ok (.aload_n 0, 1) := by decide +kernel
theorem d_La_init_14 : decode prog_4_method_1_code 14 = .ok (.aload_n 2, 1) := by decide +kernel
theorem d_La_init_15 : decode prog_4_method_1_code 15 = .ok (.putfield 19, 3) := by decide +kernel
theorem d_La_init_18 : decode prog_4_method_1_code 18 = .ok (.aload_n 0, 1) := by decide +kernel
theorem d_La_init_19 : decode prog_4_method_1_code 19 = .ok (.aload_n 3, 1) := by decide +kernel
theorem d_La_init_20 : decode prog_4_method_1_code 20 = .ok (.putfield 22, 3) := by decide +kernel
theorem d_La_init_23 : decode prog_4_method_1_code 23 = .ok (.aload_n 0, 1) := by decide +kernel
theorem d_La_init_24 : decode prog_4_method_1_code 24 = .ok (.iload 4, 2) := by decide +kernel
theorem d_La_init_26 : decode prog_4_method_1_code 26 = .ok (.putfield 26, 3) := by decide +kernel
theorem d_La_init_29 : decode prog_4_method_1_code 29 = .ok (.return_, 1) := by decide +kernel
theorem d_RR_strip_0 : decode prog_1_method_8_code 0 = .ok (.iload_n 1, 1) := by decide +kernel
theorem d_RR_strip_1 : decode prog_1_method_8_code 1 = .ok (.invokestatic 80, 3) := by decide +kernel
theorem d_RR_strip_4 : decode prog_1_method_8_code 4 = .ok (.ifCond .eq 23, 3) := by decide +kernel
theorem d_RR_strip_7 : decode prog_1_method_8_code 7 = .ok (.iload_n 2, 1) := by decide +kernel
theorem d_RR_strip_8 : decode prog_1_method_8_code 8 = .ok (.invokestatic 46, 3) := by decide +kernel
theorem d_RR_strip_11 : decode prog_1_method_8_code 11 = .ok (.ifCond .eq 16, 3) := by decide +kernel
theorem d_RR_strip_14 : decode prog_1_method_8_code 14 = .ok (.iload 4, 2) := by decide +kernel
theorem d_RR_strip_16 : decode prog_1_method_8_code 16 = .ok (.iconst 1, 1) := by decide +kernel
theorem d_RR_strip_17 : decode prog_1_method_8_code 17 = .ok (.if_icmp .lt 10, 3) := by decide +kernel
theorem d_RR_strip_20 : decode prog_1_method_8_code 20 = .ok (.iload 4, 2) := by decide +kernel
theorem d_RR_strip_22 : decode prog_1_method_8_code 22 = .ok (.bipush 20, 2) := by decide +kernel
theorem d_RR_strip_24 : decode prog_1_method_8_code 24 = .ok (.if_icmp .le 6, 3) := by decide +kernel
theorem d_RR_strip_27 : decode prog_1_method_8_code 27 = .ok (.ldc 50, 2) := by decide +kernel
theorem d_RR_strip_29 : decode prog_1_method_8_code 29 = .ok (.ireturn, 1) := by decide +kernel
theorem d_RR_strip_30 : decode prog_1_method_8_code 30 = .ok (.aload_n 0, 1) := by decide +kernel
theorem d_RR_strip_31 : decode prog_1_method_8_code 31 = .ok (.getfield 11, 3) := by decide +kernel
theorem d_RR_strip_34 : decode prog_1_method_8_code 34 = .ok (.iload_n 2, 1) := by decide +kernel
theorem d_RR_strip_35 : decode prog_1_method_8_code 35 = .ok (.aaload, 1) := by decide +kernel
theorem d_RR_strip_36 : decode prog_1_method_8_code 36 = .ok (.astore 5, 2) := by decide +kernel
theorem d_RR_strip_38 : decode prog_1_method_8_code 38 = .ok (.aload 5, 2) := by decide +kernel
theorem d_RR_strip_40 : decode prog_1_method_8_code 40 = .ok (.ifnonnull 9, 3) := by decide +kernel
theorem d_RR_strip_43 : decode prog_1_method_8_code 43 = .ok (.aload_n 0, 1) := by decide +kernel
theorem d_RR_strip_44 : decode prog_1_method_8_code 44 = .ok (.iconst 1, 1) := by decide +kernel
theorem d_RR_strip_45 : decode prog_1_method_8_code 45 = .ok (.invokevirtual 51, 3) := by decide +kernel
theorem d_RR_strip_48 : decode prog_1_method_8_code 48 = .ok (.ireturn, 1) := by decide +kernel
theorem d_RR_strip_49 : decode prog_1_method_8_code 49 = .ok (.aload 5, 2) := by decide +kernel
theorem d_RR_strip_51 : decode prog_1_method_8_code 51 = .ok (.iload_n 3, 1) := by decide +kernel
theorem d_RR_strip_52 : decode prog_1_method_8_code 52 = .ok (.iload 4, 2) := by decide +kernel
theorem d_RR_strip_54 : decode prog_1_method_8_code 54 = .ok (.invokevirtual 61, 3) := by decide +kernel
theorem d_RR_strip_57 : decode prog_1_method_8_code 57 = .ok (.ifCond .ne 9, 3) := by decide +kernel
theorem d_RR_strip_60 : decode prog_1_method_8_code 60 = .ok (.aload_n 0, 1) := by decide +kernel
theorem d_RR_strip_61 : decode prog_1_method_8_code 61 = .ok (.iconst 2, 1) := by decide +kernel
theorem d_RR_strip_62 : decode prog_1_method_8_code 62 = .ok (.invokevirtual 51, 3) := by decide +kernel
theorem d_RR_strip_65 : decode prog_1_method_8_code 65 = .ok (.ireturn, 1) := by decide +kernel
theorem d_RR_strip_66 : decode prog_1_method_8_code 66 = .ok (.iconst 0, 1) := by decide +kernel
theorem d_RR_strip_67 : decode prog_1_method_8_code 67 = .ok (.istore 6, 2) := by decide +kernel
theorem d_RR_strip_69 : decode prog_1_method_8_code 69 = .ok (.iconst 0, 1) := by decide +kernel
theorem d_RR_strip_70 : decode prog_1_method_8_code 70 = .ok (.istore 7, 2) := by decide +kernel
theorem d_RR_strip_72 : decode prog_1_method_8_code 72 = .ok (.iload 7, 2) := by decide +kernel
theorem d_RR_strip_74 : decode prog_1_method_8_code 74 = .ok (.iload 4, 2) := by decide +kernel
theorem d_RR_strip_76 : decode prog_1_method_8_code 76 = .ok (.if_icmp .ge 55, 3) := by decide +kernel
theorem d_RR_strip_79 : decode prog_1_method_8_code 79 = .ok (.aload 5, 2) := by decide +kernel
theorem d_RR_strip_81 : decode prog_1_method_8_code 81 = .ok (.getfield 65, 3) := by decide +kernel
theorem d_RR_strip_84 : decode prog_1_method_8_code 84 = .ok (.iload_n 3, 1) := by decide +kernel
theorem d_RR_strip_85 : decode prog_1_method_8_code 85 = .ok (.iload 7, 2) := by decide +kernel
theorem d_RR_strip_87 : decode prog_1_method_8_code 87 = .ok (.iadd, 1) := by decide +kernel
theorem d_RR_strip_88 : decode prog_1_method_8_code 88 = .ok (.iaload, 1) := by decide +kernel
theorem d_RR_strip_89 : decode prog_1_method_8_code 89 = .ok (.istore 8, 2) := by decide +kernel
theorem d_RR_strip_91 : decode prog_1_method_8_code 91 = .ok (.iload 8, 2) := by decide +kernel
theorem d_RR_strip_93 : decode prog_1_method_8_code 93 = .ok (.ifCond .lt 20, 3) := by decide +kernel
theorem d_RR_strip_96 : decode prog_1_method_8_code 96 = .ok (.iload 8, 2) := by decide +kernel
theorem d_RR_strip_98 : decode prog_1_method_8_code 98 = .ok (.iload 4, 2) := by decide +kernel
theorem d_RR_strip_100 : decode prog_1_method_8_code 100 = .ok (.if_icmp .ge 13, 3) := by decide +kernel
theorem d_RR_strip_103 : decode prog_1_method_8_code 103 = .ok (.iload 6, 2) := by decide +kernel
theorem d_RR_strip_105 : decode prog_1_method_8_code 105 = .ok (.iload 8, 2) := by decide +kernel
theorem d_RR_strip_107 : decode prog_1_method_8_code 107 = .ok (.ishr, 1) := by decide +kernel
theorem d_RR_strip_108 : decode prog_1_method_8_code 108 = .ok (.iconst 1, 1) := by decide +kernel
theorem d_RR_strip_109 : decode prog_1_method_8_code 109 = .ok (.iand, 1) := by decide +kernel
theorem d_RR_strip_110 : decode prog_1_method_8_code 110 = .ok (.ifCond .eq 6, 3) := by decide +kernel
theorem d_RR_strip_113 : decode prog_1_method_8_code 113 = .ok (.ldc 50, 2) := by decide +kernel
theorem d_RR_strip_115 : decode prog_1_method_8_code 115 = .ok (.ireturn, 1) := by decide +kernel
theorem d_RR_strip_116 : decode prog_1_method_8_code 116 = .ok (.iload 6, 2) := by decide +kernel
theorem d_RR_strip_118 : decode prog_1_method_8_code 118 = .ok (.iconst 1, 1) := by decide +kernel
theorem d_RR_strip_119 : decode prog_1_method_8_code 119 = .ok (.iload 8, 2) := by decide +kernel
theorem d_RR_strip_121 : decode prog_1_method_8_code 121 = .ok (.ishl, 1) := by decide +kernel
theorem d_RR_strip_122 : decode prog_1_method_8_code 122 = .ok (.ior, 1) := by decide +kernel
theorem d_RR_strip_123 : decode prog_1_method_8_code 123 = .ok (.istore 6, 2) := by decide +kernel
theorem d_RR_strip_125 : decode prog_1_method_8_code 125 = .ok (.iinc 7 1, 3) := by decide +kernel
theorem d_RR_strip_128 : decode prog_1_method_8_code 128 = .ok (.goto (-56), 3) := by decide +kernel
theorem d_RR_strip_131 : decode prog_1_method_8_code 131 = .ok (.aload_n 0, 1) := by decide +kernel
theorem d_RR_strip_132 : decode prog_1_method_8_code 132 = .ok (.iload_n 1, 1) := by decide +kernel
theorem d_RR_strip_133 : decode prog_1_method_8_code 133 = .ok (.aload 5, 2) := by decide +kernel
theorem d_RR_strip_135 : decode prog_1_method_8_code 135 = .ok (.getfield 65, 3) := by decide +kernel
theorem d_RR_strip_138 : decode prog_1_method_8_code 138 = .ok (.iload_n 3, 1) := by decide +kernel
theorem d_RR_strip_139 : decode prog_1_method_8_code 139 = .ok (.iload_n 3, 1) := by decide +kernel
theorem d_RR_strip_140 : decode prog_1_method_8_code 140 = .ok (.iload 4, 2) := by decide +kernel
theorem d_RR_strip_142 : decode prog_1_method_8_code 142 = .ok (.iadd, 1) := by decide +kernel
theorem d_RR_strip_143 : decode prog_1_method_8_code 143 = .ok (.invokestatic 103, 3) := by decide +kernel
theorem d_RR_strip_146 : decode prog_1_method_8_code 146 = .ok (.invokestatic 109, 3) := by decide +kernel
theorem d_RR_strip_149 : decode prog_1_method_8_code 149 = .ok (.invokevirtual 87, 3) := by decide +kernel
theorem d_RR_strip_152 : decode prog_1_method_8_code 152 = .ok (.ireturn, 1) := by decide +kernel
theorem d_JA_copyOfRange_0 : decode prog_19_method_136_code 0 = .ok (.iload_n 1, 1) := by decide +kernel
theorem d_JA_copyOfRange_1 : decode prog_19_method_136_code 1 = .ok (.ifCond .ne 9, 3) := by decide +kernel
theorem d_JA_copyOfRange_4 : decode prog_19_method_136_code 4 = .ok (.iload_n 2, 1) := by decide +kernel
theorem d_JA_copyOfRange_5 : decode prog_19_method_136_code 5 = .ok (.aload_n 0, 1) := by decide +kernel
theorem d_JA_copyOfRange_6 : decode prog_19_method_136_code 6 = .ok (.arraylength, 1) := by decide +kernel
theorem d_JA_copyOfRange_7 : decode prog_19_method_136_code 7 = .ok (.if_icmp .eq 10, 3) := by decide +kernel
theorem d_JA_copyOfRange_10 : decode prog_19_method_136_code 10 = .ok (.aload_n 0, 1) := by decide +kernel
theorem d_JA_copyOfRange_11 : decode prog_19_method_136_code 11 = .ok (.iload_n 1, 1) := by decide +kernel
theorem d_JA_copyOfRange_12 : decode prog_19_method_136_code 12 = .ok (.iload_n 2, 1) := by decide +kernel
theorem d_JA_copyOfRange_13 : decode prog_19_method_136_code 13 = .ok (.invokestatic 351, 3) := by decide +kernel
theorem d_JA_copyOfRange_16 : decode prog_19_method_136_code 16 = .ok (.areturn, 1) := by decide +kernel
theorem d_JA_copyOfRange_17 : decode prog_19_method_136_code 17 = .ok (.aload_n 0, 1) := by decide +kernel
theorem d_JA_copyOfRange_18 : decode prog_19_method_136_code 18 = .ok (.invokevirtual 316, 3) := by decide +kernel
theorem d_JA_copyOfRange_21 : decode prog_19_method_136_code 21 = .ok (.checkcast 317, 3) := by decide +kernel
theorem d_JA_copyOfRange_24 : decode prog_19_method_136_code 24 = .ok (.areturn, 1) := by decide +kernel
theorem d_JA_copyOfRangeInt_0 : decode prog_19_method_137_code 0 = .ok (.iload_n 1, 1) := by decide +kernel
theorem d_JA_copyOfRangeInt_1 : decode prog_19_method_137_code 1 = .ok (.iload_n 2, 1) := by decide +kernel
theorem d_JA_copyOfRangeInt_2 : decode prog_19_method_137_code 2 = .ok (.invokestatic 343, 3) := by decide +kernel
theorem d_JA_copyOfRangeInt_5 : decode prog_19_method_137_code 5 = .ok (.iload_n 2, 1) := by decide +kernel
theorem d_JA_copyOfRangeInt_6 : decode prog_19_method_137_code 6 = .ok (.iload_n 1, 1) := by decide +kernel
theorem d_JA_copyOfRangeInt_7 : decode prog_19_method_137_code 7 = .ok (.isub, 1) := by decide +kernel
theorem d_JA_copyOfRangeInt_8 : decode prog_19_method_137_code 8 = .ok (.istore_n 3, 1) := by decide +kernel
theorem d_JA_copyOfRangeInt_9 : decode prog_19_method_137_code 9 = .ok (.iload_n 3, 1) := by decide +kernel
theorem d_JA_copyOfRangeInt_10 : decode prog_19_method_137_code 10 = .ok (.newarray .int, 2) := by decide +kernel
theorem d_JA_copyOfRangeInt_12 : decode prog_19_method_137_code 12 = .ok (.astore 4, 2) := by decide +kernel
theorem d_JA_copyOfRangeInt_14 : decode prog_19_method_137_code 14 = .ok (.aload_n 0, 1) := by decide +kernel
theorem d_JA_copyOfRangeInt_15 : decode prog_19_method_137_code 15 = .ok (.iload_n 1, 1) := by decide +kernel
theorem d_JA_copyOfRangeInt_16 : decode prog_19_method_137_code 16 = .ok (.aload 4, 2) := by decide +kernel
theorem d_JA_copyOfRangeInt_18 : decode prog_19_method_137_code 18 = .ok (.iconst 0, 1) := by decide +kernel
theorem d_JA_copyOfRangeInt_19 : decode prog_19_method_137_code 19 = .ok (.aload_n 0, 1) := by decide +kernel
theorem d_JA_copyOfRangeInt_20 : decode prog_19_method_137_code 20 = .ok (.arraylength, 1) := by decide +kernel
theorem d_JA_copyOfRangeInt_21 : decode prog_19_method_137_code 21 = .ok (.iload_n 1, 1) := by decide +kernel
theorem d_JA_copyOfRangeInt_22 : decode prog_19_method_137_code 22 = .ok (.isub, 1) := by decide +kernel
theorem d_JA_copyOfRangeInt_23 : decode prog_19_method_137_code 23 = .ok (.iload_n 3, 1) := by decide +kernel
theorem d_JA_copyOfRangeInt_24 : decode prog_19_method_137_code 24 = .ok (.invokestatic 304, 3) := by decide +kernel
theorem d_JA_copyOfRangeInt_27 : decode prog_19_method_137_code 27 = .ok (.invokestatic 150, 3) := by decide +kernel
theorem d_JA_copyOfRangeInt_30 : decode prog_19_method_137_code 30 = .ok (.aload 4, 2) := by decide +kernel
theorem d_JA_copyOfRangeInt_32 : decode prog_19_method_137_code 32 = .ok (.areturn, 1) := by decide +kernel
theorem d_JA_checkLength_0 : decode prog_19_method_131_code 0 = .ok (.iload_n 1, 1) := by decide +kernel
theorem d_JA_checkLength_1 : decode prog_19_method_131_code 1 = .ok (.iload_n 0, 1) := by decide +kernel
theorem d_JA_checkLength_2 : decode prog_19_method_131_code 2 = .ok (.if_icmp .ge 35, 3) := by decide +kernel
theorem d_JA_checkLength_5 : decode prog_19_method_131_code 5 = .ok (.new 43, 3) := by decide +kernel
theorem d_JA_checkLength_8 : decode prog_19_method_131_code 8 = .ok (.dup, 1) := by decide +kernel
theorem d_JA_checkLength_9 : decode prog_19_method_131_code 9 = .ok (.new 45, 3) := by decide +kernel
theorem d_JA_checkLength_12 : decode prog_19_method_131_code 12 = .ok (.dup, 1) := by decide +kernel
theorem d_JA_checkLength_13 : decode prog_19_method_131_code 13 = .ok (.invokespecial 47, 3) := by decide +kernel
theorem d_JA_checkLength_16 : decode prog_19_method_131_code 16 = .ok (.iload_n 0, 1) := by decide +kernel
theorem d_JA_checkLength_17 : decode prog_19_method_131_code 17 = .ok (.invokevirtual 54, 3) := by decide +kernel
theorem d_JA_checkLength_20 : decode prog_19_method_131_code 20 = .ok (.ldc_w 337, 3) := by decide +kernel
theorem d_JA_checkLength_23 : decode prog_19_method_131_code 23 = .ok (.invokevirtual 50, 3) := by decide +kernel
theorem d_JA_checkLength_26 : decode prog_19_method_131_code 26 = .ok (.iload_n 1, 1) := by decide +kernel
theorem d_JA_checkLength_27 : decode prog_19_method_131_code 27 = .ok (.invokevirtual 54, 3) := by decide +kernel
theorem d_JA_checkLength_30 : decode prog_19_method_131_code 30 = .ok (.invokevirtual 61, 3) := by decide +kernel
theorem d_JA_checkLength_33 : decode prog_19_method_131_code 33 = .ok (.invokespecial 65, 3) := by decide +kernel
theorem d_JA_checkLength_36 : decode prog_19_method_131_code 36 = .ok (.athrow, 1) := by decide +kernel
theorem d_JA_checkLength_37 : decode prog_19_method_131_code 37 = .ok (.return_, 1) := by decide +kernel
theorem d_JM_min_0 : decode prog_17_method_69_code 0 = .ok (.iload_n 0, 1) := by decide +kernel
theorem d_JM_min_1 : decode prog_17_method_69_code 1 = .ok (.iload_n 1, 1) := by decide +kernel
theorem d_JM_min_2 : decode prog_17_method_69_code 2 = .ok (.if_icmp .gt 7, 3) := by decide +kernel
theorem d_JM_min_5 : decode prog_17_method_69_code 5 = .ok (.iload_n 0, 1) := by decide +kernel
theorem d_JM_min_6 : decode prog_17_method_69_code 6 = .ok (.goto 4, 3) := by decide +kernel
theorem d_JM_min_9 : decode prog_17_method_69_code 9 = .ok (.iload_n 1, 1) := by decide +kernel
theorem d_JM_min_10 : decode prog_17_method_69_code 10 = .ok (.ireturn, 1) := by decide +kernel
theorem d_RR_stripOf_0 : decode prog_1_method_55_code 0 = .ok (.aload_n 0, 1) := by decide +kernel
theorem d_RR_stripOf_1 : decode prog_1_method_55_code 1 = .ok (.arraylength, 1) := by decide +kernel
theorem d_RR_stripOf_2 : decode prog_1_method_55_code 2 = .ok (.newarray .int, 2) := by decide +kernel
theorem d_RR_stripOf_4 : decode prog_1_method_55_code 4 = .ok (.astore_n 1, 1) := by decide +kernel
theorem d_RR_stripOf_5 : decode prog_1_method_55_code 5 = .ok (.iconst 0, 1) := by decide +kernel
theorem d_RR_stripOf_6 : decode prog_1_method_55_code 6 = .ok (.istore_n 2, 1) := by decide +kernel
theorem d_RR_stripOf_7 : decode prog_1_method_55_code 7 = .ok (.iload_n 2, 1) := by decide +kernel
theorem d_RR_stripOf_8 : decode prog_1_method_55_code 8 = .ok (.aload_n 0, 1) := by decide +kernel
theorem d_RR_stripOf_9 : decode prog_1_method_55_code 9 = .ok (.arraylength, 1) := by decide +kernel
theorem d_RR_stripOf_10 : decode prog_1_method_55_code 10 = .ok (.if_icmp .ge 15, 3) := by decide +kernel
theorem d_RR_stripOf_13 : decode prog_1_method_55_code 13 = .ok (.aload_n 1, 1) := by decide +kernel
theorem d_RR_stripOf_14 : decode prog_1_method_55_code 14 = .ok (.aload_n 0, 1) := by decide +kernel
theorem d_RR_stripOf_15 : decode prog_1_method_55_code 15 = .ok (.iload_n 2, 1) := by decide +kernel
theorem d_RR_stripOf_16 : decode prog_1_method_55_code 16 = .ok (.iaload, 1) := by decide +kernel
theorem d_RR_stripOf_17 : decode prog_1_method_55_code 17 = .ok (.iload_n 2, 1) := by decide +kernel
theorem d_RR_stripOf_18 : decode prog_1_method_55_code 18 = .ok (.iastore, 1) := by decide +kernel
theorem d_RR_stripOf_19 : decode prog_1_method_55_code 19 = .ok (.iinc 2 1, 3) := by decide +kernel
theorem d_RR_stripOf_22 : decode prog_1_method_55_code 22 = .ok (.goto (-15), 3) := by decide +kernel
theorem d_RR_stripOf_25 : decode prog_1_method_55_code 25 = .ok (.iconst 0, 1) := by decide +kernel
theorem d_RR_stripOf_26 : decode prog_1_method_55_code 26 = .ok (.istore_n 2, 1) := by decide +kernel
theorem d_RR_stripOf_27 : decode prog_1_method_55_code 27 = .ok (.iload_n 2, 1) := by decide +kernel
theorem d_RR_stripOf_28 : decode prog_1_method_55_code 28 = .ok (.aload_n 0, 1) := by decide +kernel
theorem d_RR_stripOf_29 : decode prog_1_method_55_code 29 = .ok (.arraylength, 1) := by decide +kernel
theorem d_RR_stripOf_30 : decode prog_1_method_55_code 30 = .ok (.iconst 1, 1) := by decide +kernel
theorem d_RR_stripOf_31 : decode prog_1_method_55_code 31 = .ok (.isub, 1) := by decide +kernel
theorem d_RR_stripOf_32 : decode prog_1_method_55_code 32 = .ok (.if_icmp .ge 33, 3) := by decide +kernel
theorem d_RR_stripOf_35 : decode prog_1_method_55_code 35 = .ok (.iload_n 2, 1) := by decide +kernel
theorem d_RR_stripOf_36 : decode prog_1_method_55_code 36 = .ok (.aload_n 1, 1) := by decide +kernel
theorem d_RR_stripOf_37 : decode prog_1_method_55_code 37 = .ok (.invokestatic 277, 3) := by decide +kernel
theorem d_RR_stripOf_40 : decode prog_1_method_55_code 40 = .ok (.istore_n 3, 1) := by decide +kernel
theorem d_RR_stripOf_41 : decode prog_1_method_55_code 41 = .ok (.iload_n 3, 1) := by decide +kernel
theorem d_RR_stripOf_42 : decode prog_1_method_55_code 42 = .ok (.ldc 117, 2) := by decide +kernel
theorem d_RR_stripOf_44 : decode prog_1_method_55_code 44 = .ok (.if_icmp .eq 15, 3) := by decide +kernel
theorem d_RR_stripOf_47 : decode prog_1_method_55_code 47 = .ok (.new 205, 3) := by decide +kernel
theorem d_RR_stripOf_50 : decode prog_1_method_55_code 50 = .ok (.dup, 1) := by decide +kernel
theorem d_RR_stripOf_51 : decode prog_1_method_55_code 51 = .ok (.aload_n 0, 1) := by decide +kernel
theorem d_RR_stripOf_52 : decode prog_1_method_55_code 52 = .ok (.aload_n 1, 1) := by decide +kernel
theorem d_RR_stripOf_53 : decode prog_1_method_55_code 53 = .ok (.iload_n 2, 1) := by decide +kernel
theorem d_RR_stripOf_54 : decode prog_1_method_55_code 54 = .ok (.iload_n 3, 1) := by decide +kernel
theorem d_RR_stripOf_55 : decode prog_1_method_55_code 55 = .ok (.invokespecial 281, 3) := by decide +kernel
theorem d_RR_stripOf_58 : decode prog_1_method_55_code 58 = .ok (.areturn, 1) := by decide +kernel
theorem d_RR_stripOf_59 : decode prog_1_method_55_code 59 = .ok (.iinc 2 1, 3) := by decide +kernel
theorem d_RR_stripOf_62 : decode prog_1_method_55_code 62 = .ok (.goto (-35), 3) := by decide +kernel
theorem d_RR_stripOf_65 : decode prog_1_method_55_code 65 = .ok (.new 237, 3) := by decide +kernel
theorem d_RR_stripOf_68 : decode prog_1_method_55_code 68 = .ok (.dup, 1) := by decide +kernel
theorem d_RR_stripOf_69 : decode prog_1_method_55_code 69 = .ok (.aload_n 0, 1) := by decide +kernel
theorem d_RR_stripOf_70 : decode prog_1_method_55_code 70 = .ok (.aload_n 1, 1) := by decide +kernel
theorem d_RR_stripOf_71 : decode prog_1_method_55_code 71 = .ok (.invokespecial 284, 3) := by decide +kernel
theorem d_RR_stripOf_74 : decode prog_1_method_55_code 74 = .ok (.areturn, 1) := by decide +kernel
theorem d_RR_firstClashWith_0 : decode prog_1_method_56_code 0 = .ok (.aload_n 1, 1) := by decide +kernel
theorem d_RR_firstClashWith_1 : decode prog_1_method_56_code 1 = .ok (.iload_n 0, 1) := by decide +kernel
theorem d_RR_firstClashWith_2 : decode prog_1_method_56_code 2 = .ok (.iaload, 1) := by decide +kernel
theorem d_RR_firstClashWith_3 : decode prog_1_method_56_code 3 = .ok (.aload_n 1, 1) := by decide +kernel
theorem d_RR_firstClashWith_4 : decode prog_1_method_56_code 4 = .ok (.iload_n 0, 1) := by decide +kernel
theorem d_RR_firstClashWith_5 : decode prog_1_method_56_code 5 = .ok (.iconst 1, 1) := by decide +kernel
theorem d_RR_firstClashWith_6 : decode prog_1_method_56_code 6 = .ok (.iadd, 1) := by decide +kernel
theorem d_RR_firstClashWith_7 : decode prog_1_method_56_code 7 = .ok (.iaload, 1) := by decide +kernel
theorem d_RR_firstClashWith_8 : decode prog_1_method_56_code 8 = .ok (.invokestatic 287, 3) := by decide +kernel
theorem d_RR_firstClashWith_11 : decode prog_1_method_56_code 11 = .ok (.istore_n 2, 1) := by decide +kernel
theorem d_RR_firstClashWith_12 : decode prog_1_method_56_code 12 = .ok (.aload_n 1, 1) := by decide +kernel
theorem d_RR_firstClashWith_13 : decode prog_1_method_56_code 13 = .ok (.iload_n 0, 1) := by decide +kernel
theorem d_RR_firstClashWith_14 : decode prog_1_method_56_code 14 = .ok (.iaload, 1) := by decide +kernel
theorem d_RR_firstClashWith_15 : decode prog_1_method_56_code 15 = .ok (.aload_n 1, 1) := by decide +kernel
theorem d_RR_firstClashWith_16 : decode prog_1_method_56_code 16 = .ok (.iload_n 0, 1) := by decide +kernel
theorem d_RR_firstClashWith_17 : decode prog_1_method_56_code 17 = .ok (.iconst 1, 1) := by decide +kernel
theorem d_RR_firstClashWith_18 : decode prog_1_method_56_code 18 = .ok (.iadd, 1) := by decide +kernel
theorem d_RR_firstClashWith_19 : decode prog_1_method_56_code 19 = .ok (.iaload, 1) := by decide +kernel
theorem d_RR_firstClashWith_20 : decode prog_1_method_56_code 20 = .ok (.invokestatic 292, 3) := by decide +kernel
theorem d_RR_firstClashWith_23 : decode prog_1_method_56_code 23 = .ok (.istore_n 3, 1) := by decide +kernel
theorem d_RR_firstClashWith_24 : decode prog_1_method_56_code 24 = .ok (.iload_n 0, 1) := by decide +kernel
theorem d_RR_firstClashWith_25 : decode prog_1_method_56_code 25 = .ok (.iconst 2, 1) := by decide +kernel
theorem d_RR_firstClashWith_26 : decode prog_1_method_56_code 26 = .ok (.iadd, 1) := by decide +kernel
theorem d_RR_firstClashWith_27 : decode prog_1_method_56_code 27 = .ok (.istore 4, 2) := by decide +kernel
theorem d_RR_firstClashWith_29 : decode prog_1_method_56_code 29 = .ok (.iload 4, 2) := by decide +kernel
theorem d_RR_firstClashWith_31 : decode prog_1_method_56_code 31 = .ok (.aload_n 1, 1) := by decide +kernel
theorem d_RR_firstClashWith_32 : decode prog_1_method_56_code 32 = .ok (.arraylength, 1) := by decide +kernel
theorem d_RR_firstClashWith_33 : decode prog_1_method_56_code 33 = .ok (.iconst 1, 1) := by decide +kernel
theorem d_RR_firstClashWith_34 : decode prog_1_method_56_code 34 = .ok (.isub, 1) := by decide +kernel
theorem d_RR_firstClashWith_35 : decode prog_1_method_56_code 35 = .ok (.if_icmp .ge 35, 3) := by decide +kernel
theorem d_RR_firstClashWith_38 : decode prog_1_method_56_code 38 = .ok (.aload_n 1, 1) := by decide +kernel
theorem d_RR_firstClashWith_39 : decode prog_1_method_56_code 39 = .ok (.iload 4, 2) := by decide +kernel
theorem d_RR_firstClashWith_41 : decode prog_1_method_56_code 41 = .ok (.iaload, 1) := by decide +kernel
theorem d_RR_firstClashWith_42 : decode prog_1_method_56_code 42 = .ok (.iload_n 2, 1) := by decide +kernel
theorem d_RR_firstClashWith_43 : decode prog_1_method_56_code 43 = .ok (.iload_n 3, 1) := by decide +kernel
theorem d_RR_firstClashWith_44 : decode prog_1_method_56_code 44 = .ok (.invokestatic 295, 3) := by decide +kernel
theorem d_RR_firstClashWith_47 : decode prog_1_method_56_code 47 = .ok (.aload_n 1, 1) := by decide +kernel
theorem d_RR_firstClashWith_48 : decode prog_1_method_56_code 48 = .ok (.iload 4, 2) := by decide +kernel
theorem d_RR_firstClashWith_50 : decode prog_1_method_56_code 50 = .ok (.iconst 1, 1) := by decide +kernel
theorem d_RR_firstClashWith_51 : decode prog_1_method_56_code 51 = .ok (.iadd, 1) := by decide +kernel
theorem d_RR_firstClashWith_52 : decode prog_1_method_56_code 52 = .ok (.iaload, 1) := by decide +kernel
theorem d_RR_firstClashWith_53 : decode prog_1_method_56_code 53 = .ok (.iload_n 2, 1) := by decide +kernel
theorem d_RR_firstClashWith_54 : decode prog_1_method_56_code 54 = .ok (.iload_n 3, 1) := by decide +kernel
theorem d_RR_firstClashWith_55 : decode prog_1_method_56_code 55 = .ok (.invokestatic 295, 3) := by decide +kernel
theorem d_RR_firstClashWith_58 : decode prog_1_method_56_code 58 = .ok (.if_icmp .eq 6, 3) := by decide +kernel
theorem d_RR_firstClashWith_61 : decode prog_1_method_56_code 61 = .ok (.iload 4, 2) := by decide +kernel
theorem d_RR_firstClashWith_63 : decode prog_1_method_56_code 63 = .ok (.ireturn, 1) := by decide +kernel
theorem d_RR_firstClashWith_64 : decode prog_1_method_56_code 64 = .ok (.iinc 4 2, 3) := by decide +kernel
theorem d_RR_firstClashWith_67 : decode prog_1_method_56_code 67 = .ok (.goto (-38), 3) := by decide +kernel
theorem d_RR_firstClashWith_70 : decode prog_1_method_56_code 70 = .ok (.ldc 117, 2) := by decide +kernel
theorem d_RR_firstClashWith_72 : decode prog_1_method_56_code 72 = .ok (.ireturn, 1) := by decide +kernel
theorem d_JM_max_0 : decode prog_17_method_65_code 0 = .ok (.iload_n 0, 1) := by decide +kernel
theorem d_JM_max_1 : decode prog_17_method_65_code 1 = .ok (.iload_n 1, 1) := by decide +kernel
theorem d_JM_max_2 : decode prog_17_method_65_code 2 = .ok (.if_icmp .lt 7, 3) := by decide +kernel
theorem d_JM_max_5 : decode prog_17_method_65_code 5 = .ok (.iload_n 0, 1) := by decide +kernel
theorem d_JM_max_6 : decode prog_17_method_65_code 6 = .ok (.goto 4, 3) := by decide +kernel
theorem d_JM_max_9 : decode prog_17_method_65_code 9 = .ok (.iload_n 1, 1) := by decide +kernel
theorem d_JM_max_10 : decode prog_17_method_65_code 10 = .ok (.ireturn, 1) := by decide +kernel
theorem d_RR_isBetween_0 : decode prog_1_method_57_code 0 = .ok (.iload_n 0, 1) := by decide +kernel
theorem d_RR_isBetween_1 : decode prog_1_method_57_code 1 = .ok (.iload_n 1, 1) := by decide +kernel
theorem d_RR_isBetween_2 : decode prog_1_method_57_code 2 = .ok (.if_icmp .le 12, 3) := by decide +kernel
theorem d_RR_isBetween_5 : decode prog_1_method_57_code 5 = .ok (.iload_n 0, 1) := by decide +kernel
theorem d_RR_isBetween_6 : decode prog_1_method_57_code 6 = .ok (.iload_n 2, 1) := by decide +kernel
theorem d_RR_isBetween_7 : decode prog_1_method_57_code 7 = .ok (.if_icmp .ge 7, 3) := by decide +kernel
theorem d_RR_isBetween_10 : decode prog_1_method_57_code 10 = .ok (.iconst 1, 1) := by decide +kernel
theorem d_RR_isBetween_11 : decode prog_1_method_57_code 11 = .ok (.goto 4, 3) := by decide +kernel
theorem d_RR_isBetween_14 : decode prog_1_method_57_code 14 = .ok (.iconst 0, 1) := by decide +kernel
theorem d_RR_isBetween_15 : decode prog_1_method_57_code 15 = .ok (.ireturn, 1) := by decide +kernel
theorem d_St_init_0 : decode prog_10_method_1_code 0 = .ok (.aload_n 0, 1) := by decide +kernel
theorem d_St_init_1 : decode prog_10_method_1_code 1 = .ok (.aload_n 1, 1) := by decide +kernel
theorem d_St_init_2 : decode prog_10_method_1_code 2 = .ok (.arraylength, 1) := by decide +kernel
theorem d_St_init_3 : decode prog_10_method_1_code 3 = .ok (.invokespecial 1, 3) := by decide +kernel
theorem d_St_init_6 : decode prog_10_method_1_code 6 = .ok (.aload_n 0, 1) := by decide +kernel
theorem d_St_init_7 : decode prog_10_method_1_code 7 = .ok (.aload_n 1, 1) := by decide +kernel
theorem d_St_init_8 : decode prog_10_method_1_code 8 = .ok (.putfield 7, 3) := by decide +kernel
theorem d_St_init_11 : decode prog_10_method_1_code 11 = .ok (.aload_n 0, 1) := by decide +kernel
theorem d_St_init_12 : decode prog_10_method_1_code 12 = .ok (.aload_n 2, 1) := by decide +kernel
theorem d_St_init_13 : decode prog_10_method_1_code 13 = .ok (.putfield 13, 3) := by decide +kernel
theorem d_St_init_16 : decode prog_10_method_1_code 16 = .ok (.aload_n 0, 1) := by decide +kernel
theorem d_St_init_17 : decode prog_10_method_1_code 17 = .ok (.iload_n 3, 1) := by decide +kernel
theorem d_St_init_18 : decode prog_10_method_1_code 18 = .ok (.putfield 16, 3) := by decide +kernel
theorem d_St_init_21 : decode prog_10_method_1_code 21 = .ok (.aload_n 0, 1) := by decide +kernel
theorem d_St_init_22 : decode prog_10_method_1_code 22 = .ok (.iload 4, 2) := by decide +kernel
theorem d_St_init_24 : decode prog_10_method_1_code 24 = .ok (.putfield 20, 3) := by decide +kernel
theorem d_St_init_27 : decode prog_10_method_1_code 27 = .ok (.return_, 1) := by decide +kernel
theorem d_Fo_init_0 : decode prog_3_method_1_code 0 = .ok (.aload_n 0, 1) := by decide +kernel
theorem d_Fo_init_1 : decode prog_3_method_1_code 1 = .ok (.aload_n 1, 1) := by decide +kernel
theorem d_Fo_init_2 : decode prog_3_method_1_code 2 = .ok (.aload_n 2, 1) := by decide +kernel
theorem d_Fo_init_3 : decode prog_3_method_1_code 3 = .ok (.ldc 3, 2) := by decide +kernel
theorem d_Fo_init_5 : decode prog_3_method_1_code 5 = .ok (.ldc 3, 2) := by decide +kernel
theorem d_Fo_init_7 : decode prog_3_method_1_code 7 = .ok (.invokespecial 4, 3) := by decide +kernel
theorem d_Fo_init_10 : decode prog_3_method_1_code 10 = .ok (.return_, 1) := by decide +kernel
theorem d_RR_nth_0 : decode prog_1_method_9_code 0 = .ok (.iload_n 1, 1) := by decide +kernel
theorem d_RR_nth_1 : decode prog_1_method_9_code 1 = .ok (.invokestatic 80, 3) := by decide +kernel
theorem d_RR_nth_4 : decode prog_1_method_9_code 4 = .ok (.ifCond .eq 14, 3) := by decide +kernel
theorem d_RR_nth_7 : decode prog_1_method_9_code 7 = .ok (.iload_n 2, 1) := by decide +kernel
theorem d_RR_nth_8 : decode prog_1_method_9_code 8 = .ok (.iconst 1, 1) := by decide +kernel
theorem d_RR_nth_9 : decode prog_1_method_9_code 9 = .ok (.if_icmp .lt 9, 3) := by decide +kernel
theorem d_RR_nth_12 : decode prog_1_method_9_code 12 = .ok (.iload_n 2, 1) := by decide +kernel
theorem d_RR_nth_13 : decode prog_1_method_9_code 13 = .ok (.bipush 12, 2) := by decide +kernel
theorem d_RR_nth_15 : decode prog_1_method_9_code 15 = .ok (.if_icmp .le 6, 3) := by decide +kernel
theorem d_RR_nth_18 : decode prog_1_method_9_code 18 = .ok (.ldc 50, 2) := by decide +kernel
theorem d_RR_nth_20 : decode prog_1_method_9_code 20 = .ok (.ireturn, 1) := by decide +kernel
theorem d_RR_nth_21 : decode prog_1_method_9_code 21 = .ok (.iload_n 3, 1) := by decide +kernel
theorem d_RR_nth_22 : decode prog_1_method_9_code 22 = .ok (.ifCond .lt 13, 3) := by decide +kernel
theorem d_RR_nth_25 : decode prog_1_method_9_code 25 = .ok (.iload_n 3, 1) := by decide +kernel
theorem d_RR_nth_26 : decode prog_1_method_9_code 26 = .ok (.aload_n 0, 1) := by decide +kernel
theorem d_RR_nth_27 : decode prog_1_method_9_code 27 = .ok (.iload_n 2, 1) := by decide +kernel
theorem d_RR_nth_28 : decode prog_1_method_9_code 28 = .ok (.iload_n 2, 1) := by decide +kernel
theorem d_RR_nth_29 : decode prog_1_method_9_code 29 = .ok (.invokevirtual 113, 3) := by decide +kernel
theorem d_RR_nth_32 : decode prog_1_method_9_code 32 = .ok (.if_icmp .lt 10, 3) := by decide +kernel
theorem d_RR_nth_35 : decode prog_1_method_9_code 35 = .ok (.aload_n 0, 1) := by decide +kernel
theorem d_RR_nth_36 : decode prog_1_method_9_code 36 = .ok (.ldc 117, 2) := by decide +kernel
theorem d_RR_nth_38 : decode prog_1_method_9_code 38 = .ok (.invokevirtual 58, 3) := by decide +kernel
theorem d_RR_nth_41 : decode prog_1_method_9_code 41 = .ok (.ireturn, 1) := by decide +kernel
theorem d_RR_nth_42 : decode prog_1_method_9_code 42 = .ok (.aload_n 0, 1) := by decide +kernel
theorem d_RR_nth_43 : decode prog_1_method_9_code 43 = .ok (.iload_n 1, 1) := by decide +kernel
theorem d_RR_nth_44 : decode prog_1_method_9_code 44 = .ok (.iload_n 2, 1) := by decide +kernel
theorem d_RR_nth_45 : decode prog_1_method_9_code 45 = .ok (.aload_n 0, 1) := by decide +kernel
theorem d_RR_nth_46 : decode prog_1_method_9_code 46 = .ok (.iload_n 2, 1) := by decide +kernel
theorem d_RR_nth_47 : decode prog_1_method_9_code 47 = .ok (.iload_n 3, 1) := by decide +kernel
theorem d_RR_nth_48 : decode prog_1_method_9_code 48 = .ok (.invokevirtual 118, 3) := by decide +kernel
theorem d_RR_nth_51 : decode prog_1_method_9_code 51 = .ok (.invokestatic 122, 3) := by decide +kernel
theorem d_RR_nth_54 : decode prog_1_method_9_code 54 = .ok (.invokevirtual 87, 3) := by decide +kernel
theorem d_RR_nth_57 : decode prog_1_method_9_code 57 = .ok (.ireturn, 1) := by decide +kernel
theorem d_RR_endingsOf_0 : decode prog_1_method_49_code 0 = .ok (.iload_n 1, 1) := by decide +kernel
theorem d_RR_endingsOf_1 : decode prog_1_method_49_code 1 = .ok (.ifCond .ge 7, 3) := by decide +kernel
theorem d_RR_endingsOf_4 : decode prog_1_method_49_code 4 = .ok (.iconst 0, 1) := by decide +kernel
theorem d_RR_endingsOf_5 : decode prog_1_method_49_code 5 = .ok (.goto 13, 3) := by decide +kernel
theorem d_RR_endingsOf_8 : decode prog_1_method_49_code 8 = .ok (.aload_n 0, 1) := by decide +kernel
theorem d_RR_endingsOf_9 : decode prog_1_method_49_code 9 = .ok (.getfield 32, 3) := by decide +kernel
theorem d_RR_endingsOf_12 : decode prog_1_method_49_code 12 = .ok (.iload_n 1, 1) := by decide +kernel
theorem d_RR_endingsOf_13 : decode prog_1_method_49_code 13 = .ok (.iload_n 2, 1) := by decide +kernel
theorem d_RR_endingsOf_14 : decode prog_1_method_49_code 14 = .ok (.invokestatic 257, 3) := by decide +kernel
theorem d_RR_endingsOf_17 : decode prog_1_method_49_code 17 = .ok (.iaload, 1) := by decide +kernel
theorem d_RR_endingsOf_18 : decode prog_1_method_49_code 18 = .ok (.ireturn, 1) := by decide +kernel
theorem d_RR_plusOfRank_0 : decode prog_1_method_50_code 0 = .ok (.lconst 0, 1) := by decide +kernel
theorem d_RR_plusOfRank_1 : decode prog_1_method_50_code 1 = .ok (.lstore_n 3, 1) := by decide +kernel
theorem d_RR_plusOfRank_2 : decode prog_1_method_50_code 2 = .ok (.iload_n 2, 1) := by decide +kernel
theorem d_RR_plusOfRank_3 : decode prog_1_method_50_code 3 = .ok (.istore 5, 2) := by decide +kernel
theorem d_RR_plusOfRank_5 : decode prog_1_method_50_code 5 = .ok (.iload_n 1, 1) := by decide +kernel
theorem d_RR_plusOfRank_6 : decode prog_1_method_50_code 6 = .ok (.istore 6, 2) := by decide +kernel
theorem d_RR_plusOfRank_8 : decode prog_1_method_50_code 8 = .ok (.iload_n 1, 1) := by decide +kernel
theorem d_RR_plusOfRank_9 : decode prog_1_method_50_code 9 = .ok (.istore 7, 2) := by decide +kernel
theorem d_RR_plusOfRank_11 : decode prog_1_method_50_code 11 = .ok (.iconst 0, 1) := by decide +kernel
theorem d_RR_plusOfRank_12 : decode prog_1_method_50_code 12 = .ok (.istore 8, 2) := by decide +kernel
theorem d_RR_plusOfRank_14 : decode prog_1_method_50_code 14 = .ok (.iload 8, 2) := by decide +kernel
theorem d_RR_plusOfRank_16 : decode prog_1_method_50_code 16 = .ok (.iconst 2, 1) := by decide +kernel
theorem d_RR_plusOfRank_17 : decode prog_1_method_50_code 17 = .ok (.iload_n 1, 1) := by decide +kernel
theorem d_RR_plusOfRank_18 : decode prog_1_method_50_code 18 = .ok (.imul, 1) := by decide +kernel
theorem d_RR_plusOfRank_19 : decode prog_1_method_50_code 19 = .ok (.if_icmp .ge 51, 3) := by decide +kernel
theorem d_RR_plusOfRank_22 : decode prog_1_method_50_code 22 = .ok (.aload_n 0, 1) := by decide +kernel
theorem d_RR_plusOfRank_23 : decode prog_1_method_50_code 23 = .ok (.iload 6, 2) := by decide +kernel
theorem d_RR_plusOfRank_25 : decode prog_1_method_50_code 25 = .ok (.iconst 1, 1) := by decide +kernel
theorem d_RR_plusOfRank_26 : decode prog_1_method_50_code 26 = .ok (.isub, 1) := by decide +kernel
theorem d_RR_plusOfRank_27 : decode prog_1_method_50_code 27 = .ok (.iload 7, 2) := by decide +kernel
theorem d_RR_plusOfRank_29 : decode prog_1_method_50_code 29 = .ok (.invokevirtual 113, 3) := by decide +kernel
theorem d_RR_plusOfRank_32 : decode prog_1_method_50_code 32 = .ok (.istore 9, 2) := by decide +kernel
theorem d_RR_plusOfRank_34 : decode prog_1_method_50_code 34 = .ok (.iload 5, 2) := by decide +kernel
theorem d_RR_plusOfRank_36 : decode prog_1_method_50_code 36 = .ok (.iload 9, 2) := by decide +kernel
theorem d_RR_plusOfRank_38 : decode prog_1_method_50_code 38 = .ok (.if_icmp .ge 16, 3) := by decide +kernel
theorem d_RR_plusOfRank_41 : decode prog_1_method_50_code 41 = .ok (.lload_n 3, 1) := by decide +kernel
theorem d_RR_plusOfRank_42 : decode prog_1_method_50_code 42 = .ok (.lconst 1, 1) := by decide +kernel
theorem d_RR_plusOfRank_43 : decode prog_1_method_50_code 43 = .ok (.iload 8, 2) := by decide +kernel
theorem d_RR_plusOfRank_45 : decode prog_1_method_50_code 45 = .ok (.lshl, 1) := by decide +kernel
theorem d_RR_plusOfRank_46 : decode prog_1_method_50_code 46 = .ok (.lor, 1) := by decide +kernel
theorem d_RR_plusOfRank_47 : decode prog_1_method_50_code 47 = .ok (.lstore_n 3, 1) := by decide +kernel
theorem d_RR_plusOfRank_48 : decode prog_1_method_50_code 48 = .ok (.iinc 6 (-1), 3) := by decide +kernel
theorem d_RR_plusOfRank_51 : decode prog_1_method_50_code 51 = .ok (.goto 13, 3) := by decide +kernel
theorem d_RR_plusOfRank_54 : decode prog_1_method_50_code 54 = .ok (.iload 5, 2) := by decide +kernel
theorem d_RR_plusOfRank_56 : decode prog_1_method_50_code 56 = .ok (.iload 9, 2) := by decide +kernel
theorem d_RR_plusOfRank_58 : decode prog_1_method_50_code 58 = .ok (.isub, 1) := by decide +kernel
theorem d_RR_plusOfRank_59 : decode prog_1_method_50_code 59 = .ok (.istore 5, 2) := by decide +kernel
theorem d_RR_plusOfRank_61 : decode prog_1_method_50_code 61 = .ok (.iinc 7 (-1), 3) := by decide +kernel
theorem d_RR_plusOfRank_64 : decode prog_1_method_50_code 64 = .ok (.iinc 8 1, 3) := by decide +kernel
theorem d_RR_plusOfRank_67 : decode prog_1_method_50_code 67 = .ok (.goto (-53), 3) := by decide +kernel
theorem d_RR_plusOfRank_70 : decode prog_1_method_50_code 70 = .ok (.lload_n 3, 1) := by decide +kernel
theorem d_RR_plusOfRank_71 : decode prog_1_method_50_code 71 = .ok (.lreturn, 1) := by decide +kernel
theorem d_RR_turn_0 : decode prog_1_method_10_code 0 = .ok (.iload_n 1, 1) := by decide +kernel
theorem d_RR_turn_1 : decode prog_1_method_10_code 1 = .ok (.invokestatic 80, 3) := by decide +kernel
theorem d_RR_turn_4 : decode prog_1_method_10_code 4 = .ok (.ifCond .eq 10, 3) := by decide +kernel
theorem d_RR_turn_7 : decode prog_1_method_10_code 7 = .ok (.iload_n 2, 1) := by decide +kernel
theorem d_RR_turn_8 : decode prog_1_method_10_code 8 = .ok (.invokestatic 80, 3) := by decide +kernel
theorem d_RR_turn_11 : decode prog_1_method_10_code 11 = .ok (.ifCond .ne 6, 3) := by decide +kernel
theorem d_RR_turn_14 : decode prog_1_method_10_code 14 = .ok (.ldc 50, 2) := by decide +kernel
theorem d_RR_turn_16 : decode prog_1_method_10_code 16 = .ok (.ireturn, 1) := by decide +kernel
theorem d_RR_turn_17 : decode prog_1_method_10_code 17 = .ok (.aload_n 0, 1) := by decide +kernel
theorem d_RR_turn_18 : decode prog_1_method_10_code 18 = .ok (.getfield 17, 3) := by decide +kernel
theorem d_RR_turn_21 : decode prog_1_method_10_code 21 = .ok (.iload_n 2, 1) := by decide +kernel
theorem d_RR_turn_22 : decode prog_1_method_10_code 22 = .ok (.aaload, 1) := by decide +kernel
theorem d_RR_turn_23 : decode prog_1_method_10_code 23 = .ok (.astore 4, 2) := by decide +kernel
theorem d_RR_turn_25 : decode prog_1_method_10_code 25 = .ok (.aload 4, 2) := by decide +kernel
theorem d_RR_turn_27 : decode prog_1_method_10_code 27 = .ok (.instanceof 91, 3) := by decide +kernel
theorem d_RR_turn_30 : decode prog_1_method_10_code 30 = .ok (.ifCond .eq 12, 3) := by decide +kernel
theorem d_RR_turn_33 : decode prog_1_method_10_code 33 = .ok (.aload 4, 2) := by decide +kernel
theorem d_RR_turn_35 : decode prog_1_method_10_code 35 = .ok (.checkcast 91, 3) := by decide +kernel
theorem d_RR_turn_38 : decode prog_1_method_10_code 38 = .ok (.astore_n 3, 1) := by decide +kernel
theorem d_RR_turn_39 : decode prog_1_method_10_code 39 = .ok (.goto 9, 3) := by decide +kernel
theorem d_RR_turn_42 : decode prog_1_method_10_code 42 = .ok (.aload_n 0, 1) := by decide +kernel
theorem d_RR_turn_43 : decode prog_1_method_10_code 43 = .ok (.iload_n 2, 1) := by decide +kernel
theorem d_RR_turn_44 : decode prog_1_method_10_code 44 = .ok (.invokevirtual 93, 3) := by decide +kernel
theorem d_RR_turn_47 : decode prog_1_method_10_code 47 = .ok (.ireturn, 1) := by decide +kernel
theorem d_RR_turn_48 : decode prog_1_method_10_code 48 = .ok (.aload_n 3, 1) := by decide +kernel
theorem d_RR_turn_49 : decode prog_1_method_10_code 49 = .ok (.getfield 126, 3) := by decide +kernel
theorem d_RR_turn_52 : decode prog_1_method_10_code 52 = .ok (.iconst 1, 1) := by decide +kernel
theorem d_RR_turn_53 : decode prog_1_method_10_code 53 = .ok (.lshr, 1) := by decide +kernel
theorem d_RR_turn_54 : decode prog_1_method_10_code 54 = .ok (.lconst 1, 1) := by decide +kernel
theorem d_RR_turn_55 : decode prog_1_method_10_code 55 = .ok (.aload_n 3, 1) := by decide +kernel
theorem d_RR_turn_56 : decode prog_1_method_10_code 56 = .ok (.getfield 130, 3) := by decide +kernel
theorem d_RR_turn_59 : decode prog_1_method_10_code 59 = .ok (.iconst 0, 1) := by decide +kernel
theorem d_RR_turn_60 : decode prog_1_method_10_code 60 = .ok (.iaload, 1) := by decide +kernel
theorem d_RR_turn_61 : decode prog_1_method_10_code 61 = .ok (.iconst 1, 1) := by decide +kernel
theorem d_RR_turn_62 : decode prog_1_method_10_code 62 = .ok (.isub, 1) := by decide +kernel
theorem d_RR_turn_63 : decode prog_1_method_10_code 63 = .ok (.lshl, 1) := by decide +kernel
theorem d_RR_turn_64 : decode prog_1_method_10_code 64 = .ok (.lor, 1) := by decide +kernel
theorem d_RR_turn_65 : decode prog_1_method_10_code 65 = .ok (.lstore 4, 2) := by decide +kernel
theorem d_RR_turn_67 : decode prog_1_method_10_code 67 = .ok (.aload_n 0, 1) := by decide +kernel
theorem d_RR_turn_68 : decode prog_1_method_10_code 68 = .ok (.iload_n 1, 1) := by decide +kernel
theorem d_RR_turn_69 : decode prog_1_method_10_code 69 = .ok (.aload_n 3, 1) := by decide +kernel
theorem d_RR_turn_70 : decode prog_1_method_10_code 70 = .ok (.getfield 96, 3) := by decide +kernel
theorem d_RR_turn_73 : decode prog_1_method_10_code 73 = .ok (.lload 4, 2) := by decide +kernel
theorem d_RR_turn_75 : decode prog_1_method_10_code 75 = .ok (.invokestatic 122, 3) := by decide +kernel
theorem d_RR_turn_78 : decode prog_1_method_10_code 78 = .ok (.invokevirtual 87, 3) := by decide +kernel
theorem d_RR_turn_81 : decode prog_1_method_10_code 81 = .ok (.ireturn, 1) := by decide +kernel
theorem d_RR_mirror_0 : decode prog_1_method_11_code 0 = .ok (.iload_n 1, 1) := by decide +kernel
theorem d_RR_mirror_1 : decode prog_1_method_11_code 1 = .ok (.invokestatic 80, 3) := by decide +kernel
theorem d_RR_mirror_4 : decode prog_1_method_11_code 4 = .ok (.ifCond .eq 10, 3) := by decide +kernel
theorem d_RR_mirror_7 : decode prog_1_method_11_code 7 = .ok (.iload_n 2, 1) := by decide +kernel
theorem d_RR_mirror_8 : decode prog_1_method_11_code 8 = .ok (.invokestatic 80, 3) := by decide +kernel
theorem d_RR_mirror_11 : decode prog_1_method_11_code 11 = .ok (.ifCond .ne 6, 3) := by decide +kernel
theorem d_RR_mirror_14 : decode prog_1_method_11_code 14 = .ok (.ldc 50, 2) := by decide +kernel
theorem d_RR_mirror_16 : decode prog_1_method_11_code 16 = .ok (.ireturn, 1) := by decide +kernel
theorem d_RR_mirror_17 : decode prog_1_method_11_code 17 = .ok (.aload_n 0, 1) := by decide +kernel
theorem d_RR_mirror_18 : decode prog_1_method_11_code 18 = .ok (.getfield 17, 3) := by decide +kernel
theorem d_RR_mirror_21 : decode prog_1_method_11_code 21 = .ok (.iload_n 2, 1) := by decide +kernel
theorem d_RR_mirror_22 : decode prog_1_method_11_code 22 = .ok (.aaload, 1) := by decide +kernel
theorem d_RR_mirror_23 : decode prog_1_method_11_code 23 = .ok (.astore 4, 2) := by decide +kernel
theorem d_RR_mirror_25 : decode prog_1_method_11_code 25 = .ok (.aload 4, 2) := by decide +kernel
theorem d_RR_mirror_27 : decode prog_1_method_11_code 27 = .ok (.instanceof 91, 3) := by decide +kernel
theorem d_RR_mirror_30 : decode prog_1_method_11_code 30 = .ok (.ifCond .eq 19, 3) := by decide +kernel
theorem d_RR_mirror_33 : decode prog_1_method_11_code 33 = .ok (.aload 4, 2) := by decide +kernel
theorem d_RR_mirror_35 : decode prog_1_method_11_code 35 = .ok (.checkcast 91, 3) := by decide +kernel
theorem d_RR_mirror_38 : decode prog_1_method_11_code 38 = .ok (.astore_n 3, 1) := by decide +kernel
theorem d_RR_mirror_39 : decode prog_1_method_11_code 39 = .ok (.aload_n 0, 1) := by decide +kernel
theorem d_RR_mirror_40 : decode prog_1_method_11_code 40 = .ok (.iload_n 1, 1) := by decide +kernel
theorem d_RR_mirror_41 : decode prog_1_method_11_code 41 = .ok (.aload_n 3, 1) := by decide +kernel
theorem d_RR_mirror_42 : decode prog_1_method_11_code 42 = .ok (.invokestatic 133, 3) := by decide +kernel
theorem d_RR_mirror_45 : decode prog_1_method_11_code 45 = .ok (.invokevirtual 87, 3) := by decide +kernel
theorem d_RR_mirror_48 : decode prog_1_method_11_code 48 = .ok (.ireturn, 1) := by decide +kernel
theorem d_RR_mirror_49 : decode prog_1_method_11_code 49 = .ok (.aload_n 0, 1) := by decide +kernel
theorem d_RR_mirror_50 : decode prog_1_method_11_code 50 = .ok (.getfield 17, 3) := by decide +kernel
theorem d_RR_mirror_53 : decode prog_1_method_11_code 53 = .ok (.iload_n 2, 1) := by decide +kernel
theorem d_RR_mirror_54 : decode prog_1_method_11_code 54 = .ok (.aaload, 1) := by decide +kernel
theorem d_RR_mirror_55 : decode prog_1_method_11_code 55 = .ok (.astore 4, 2) := by decide +kernel
theorem d_RR_mirror_57 : decode prog_1_method_11_code 57 = .ok (.aload 4, 2) := by decide +kernel
theorem d_RR_mirror_59 : decode prog_1_method_11_code 59 = .ok (.instanceof 137, 3) := by decide +kernel
theorem d_RR_mirror_62 : decode prog_1_method_11_code 62 = .ok (.ifCond .eq 32, 3) := by decide +kernel
theorem d_RR_mirror_65 : decode prog_1_method_11_code 65 = .ok (.aload 4, 2) := by decide +kernel
theorem d_RR_mirror_67 : decode prog_1_method_11_code 67 = .ok (.checkcast 137, 3) := by decide +kernel
theorem d_RR_mirror_70 : decode prog_1_method_11_code 70 = .ok (.astore_n 3, 1) := by decide +kernel
theorem d_RR_mirror_71 : decode prog_1_method_11_code 71 = .ok (.aload_n 0, 1) := by decide +kernel
theorem d_RR_mirror_72 : decode prog_1_method_11_code 72 = .ok (.iload_n 1, 1) := by decide +kernel
theorem d_RR_mirror_73 : decode prog_1_method_11_code 73 = .ok (.aload_n 3, 1) := by decide +kernel
theorem d_RR_mirror_74 : decode prog_1_method_11_code 74 = .ok (.getfield 139, 3) := by decide +kernel
theorem d_RR_mirror_77 : decode prog_1_method_11_code 77 = .ok (.invokestatic 133, 3) := by decide +kernel
theorem d_RR_mirror_80 : decode prog_1_method_11_code 80 = .ok (.aload_n 3, 1) := by decide +kernel
theorem d_RR_mirror_81 : decode prog_1_method_11_code 81 = .ok (.getfield 143, 3) := by decide +kernel
theorem d_RR_mirror_84 : decode prog_1_method_11_code 84 = .ok (.invokestatic 133, 3) := by decide +kernel
theorem d_RR_mirror_87 : decode prog_1_method_11_code 87 = .ok (.invokestatic 99, 3) := by decide +kernel
theorem d_RR_mirror_90 : decode prog_1_method_11_code 90 = .ok (.invokevirtual 87, 3) := by decide +kernel
theorem d_RR_mirror_93 : decode prog_1_method_11_code 93 = .ok (.ireturn, 1) := by decide +kernel
theorem d_RR_mirror_94 : decode prog_1_method_11_code 94 = .ok (.aload_n 0, 1) := by decide +kernel
theorem d_RR_mirror_95 : decode prog_1_method_11_code 95 = .ok (.iload_n 2, 1) := by decide +kernel
theorem d_RR_mirror_96 : decode prog_1_method_11_code 96 = .ok (.invokevirtual 93, 3) := by decide +kernel
theorem d_RR_mirror_99 : decode prog_1_method_11_code 99 = .ok (.ireturn, 1) := by decide +kernel
theorem d_RR_mirrored_0 : decode prog_1_method_46_code 0 = .ok (.iconst 2, 1) := by decide +kernel
theorem d_RR_mirrored_1 : decode prog_1_method_46_code 1 = .ok (.aload_n 0, 1) := by decide +kernel
theorem d_RR_mirrored_2 : decode prog_1_method_46_code 2 = .ok (.getfield 96, 3) := by decide +kernel
theorem d_RR_mirrored_5 : decode prog_1_method_46_code 5 = .ok (.imul, 1) := by decide +kernel
theorem d_RR_mirrored_6 : decode prog_1_method_46_code 6 = .ok (.iconst 1, 1) := by decide +kernel
theorem d_RR_mirrored_7 : decode prog_1_method_46_code 7 = .ok (.isub, 1) := by decide +kernel
theorem d_RR_mirrored_8 : decode prog_1_method_46_code 8 = .ok (.istore_n 1, 1) := by decide +kernel
theorem d_RR_mirrored_9 : decode prog_1_method_46_code 9 = .ok (.lconst 0, 1) := by decide +kernel
theorem d_RR_mirrored_10 : decode prog_1_method_46_code 10 = .ok (.lstore_n 2, 1) := by decide +kernel
theorem d_RR_mirrored_11 : decode prog_1_method_46_code 11 = .ok (.iconst 0, 1) := by decide +kernel
theorem d_RR_mirrored_12 : decode prog_1_method_46_code 12 = .ok (.istore 4, 2) := by decide +kernel
theorem d_RR_mirrored_14 : decode prog_1_method_46_code 14 = .ok (.iload 4, 2) := by decide +kernel
theorem d_RR_mirrored_16 : decode prog_1_method_46_code 16 = .ok (.iload_n 1, 1) := by decide +kernel
theorem d_RR_mirrored_17 : decode prog_1_method_46_code 17 = .ok (.if_icmp .gt 30, 3) := by decide +kernel
theorem d_RR_mirrored_20 : decode prog_1_method_46_code 20 = .ok (.aload_n 0, 1) := by decide +kernel
theorem d_RR_mirrored_21 : decode prog_1_method_46_code 21 = .ok (.getfield 126, 3) := by decide +kernel
theorem d_RR_mirrored_24 : decode prog_1_method_46_code 24 = .ok (.iload_n 1, 1) := by decide +kernel
theorem d_RR_mirrored_25 : decode prog_1_method_46_code 25 = .ok (.iload 4, 2) := by decide +kernel
theorem d_RR_mirrored_27 : decode prog_1_method_46_code 27 = .ok (.isub, 1) := by decide +kernel
theorem d_RR_mirrored_28 : decode prog_1_method_46_code 28 = .ok (.invokestatic 178, 3) := by decide +kernel
theorem d_RR_mirrored_31 : decode prog_1_method_46_code 31 = .ok (.ifCond .ne 10, 3) := by decide +kernel
theorem d_RR_mirrored_34 : decode prog_1_method_46_code 34 = .ok (.lload_n 2, 1) := by decide +kernel
theorem d_RR_mirrored_35 : decode prog_1_method_46_code 35 = .ok (.lconst 1, 1) := by decide +kernel
theorem d_RR_mirrored_36 : decode prog_1_method_46_code 36 = .ok (.iload 4, 2) := by decide +kernel
theorem d_RR_mirrored_38 : decode prog_1_method_46_code 38 = .ok (.lshl, 1) := by decide +kernel
theorem d_RR_mirrored_39 : decode prog_1_method_46_code 39 = .ok (.lor, 1) := by decide +kernel
theorem d_RR_mirrored_40 : decode prog_1_method_46_code 40 = .ok (.lstore_n 2, 1) := by decide +kernel
theorem d_RR_mirrored_41 : decode prog_1_method_46_code 41 = .ok (.iinc 4 1, 3) := by decide +kernel
theorem d_RR_mirrored_44 : decode prog_1_method_46_code 44 = .ok (.goto (-30), 3) := by decide +kernel
theorem d_RR_mirrored_47 : decode prog_1_method_46_code 47 = .ok (.aload_n 0, 1) := by decide +kernel
theorem d_RR_mirrored_48 : decode prog_1_method_46_code 48 = .ok (.getfield 96, 3) := by decide +kernel
theorem d_RR_mirrored_51 : decode prog_1_method_46_code 51 = .ok (.lload_n 2, 1) := by decide +kernel
theorem d_RR_mirrored_52 : decode prog_1_method_46_code 52 = .ok (.invokestatic 122, 3) := by decide +kernel
theorem d_RR_mirrored_55 : decode prog_1_method_46_code 55 = .ok (.areturn, 1) := by decide +kernel
theorem d_RR_clear_0 : decode prog_1_method_12_code 0 = .ok (.iload_n 1, 1) := by decide +kernel
theorem d_RR_clear_1 : decode prog_1_method_12_code 1 = .ok (.invokestatic 80, 3) := by decide +kernel
theorem d_RR_clear_4 : decode prog_1_method_12_code 4 = .ok (.ifCond .ne 6, 3) := by decide +kernel
theorem d_RR_clear_7 : decode prog_1_method_12_code 7 = .ok (.ldc 50, 2) := by decide +kernel
theorem d_RR_clear_9 : decode prog_1_method_12_code 9 = .ok (.ireturn, 1) := by decide +kernel
theorem d_RR_clear_10 : decode prog_1_method_12_code 10 = .ok (.aload_n 0, 1) := by decide +kernel
theorem d_RR_clear_11 : decode prog_1_method_12_code 11 = .ok (.getfield 17, 3) := by decide +kernel
theorem d_RR_clear_14 : decode prog_1_method_12_code 14 = .ok (.iload_n 1, 1) := by decide +kernel
theorem d_RR_clear_15 : decode prog_1_method_12_code 15 = .ok (.aaload, 1) := by decide +kernel
theorem d_RR_clear_16 : decode prog_1_method_12_code 16 = .ok (.ifnonnull 7, 3) := by decide +kernel
theorem d_RR_clear_19 : decode prog_1_method_12_code 19 = .ok (.iconst 0, 1) := by decide +kernel
theorem d_RR_clear_20 : decode prog_1_method_12_code 20 = .ok (.goto 4, 3) := by decide +kernel
theorem d_RR_clear_23 : decode prog_1_method_12_code 23 = .ok (.iconst 1, 1) := by decide +kernel
theorem d_RR_clear_24 : decode prog_1_method_12_code 24 = .ok (.istore_n 2, 1) := by decide +kernel
theorem d_RR_clear_25 : decode prog_1_method_12_code 25 = .ok (.aload_n 0, 1) := by decide +kernel
theorem d_RR_clear_26 : decode prog_1_method_12_code 26 = .ok (.getfield 17, 3) := by decide +kernel
theorem d_RR_clear_29 : decode prog_1_method_12_code 29 = .ok (.iload_n 1, 1) := by decide +kernel
theorem d_RR_clear_30 : decode prog_1_method_12_code 30 = .ok (.aconst_null, 1) := by decide +kernel
theorem d_RR_clear_31 : decode prog_1_method_12_code 31 = .ok (.aastore, 1) := by decide +kernel
theorem d_RR_clear_32 : decode prog_1_method_12_code 32 = .ok (.iload_n 2, 1) := by decide +kernel
theorem d_RR_clear_33 : decode prog_1_method_12_code 33 = .ok (.ireturn, 1) := by decide +kernel
theorem d_RR_kind_0 : decode prog_1_method_13_code 0 = .ok (.iload_n 1, 1) := by decide +kernel
theorem d_RR_kind_1 : decode prog_1_method_13_code 1 = .ok (.invokestatic 80, 3) := by decide +kernel
theorem d_RR_kind_4 : decode prog_1_method_13_code 4 = .ok (.ifCond .ne 6, 3) := by decide +kernel
theorem d_RR_kind_7 : decode prog_1_method_13_code 7 = .ok (.ldc 50, 2) := by decide +kernel
theorem d_RR_kind_9 : decode prog_1_method_13_code 9 = .ok (.ireturn, 1) := by decide +kernel
theorem d_RR_kind_10 : decode prog_1_method_13_code 10 = .ok (.aload_n 0, 1) := by decide +kernel
theorem d_RR_kind_11 : decode prog_1_method_13_code 11 = .ok (.getfield 17, 3) := by decide +kernel
theorem d_RR_kind_14 : decode prog_1_method_13_code 14 = .ok (.iload_n 1, 1) := by decide +kernel
theorem d_RR_kind_15 : decode prog_1_method_13_code 15 = .ok (.aaload, 1) := by decide +kernel
theorem d_RR_kind_16 : decode prog_1_method_13_code 16 = .ok (.astore_n 2, 1) := by decide +kernel
theorem d_RR_kind_17 : decode prog_1_method_13_code 17 = .ok (.aload_n 2, 1) := by decide +kernel
theorem d_RR_kind_18 : decode prog_1_method_13_code 18 = .ok (.ifnonnull 11, 3) := by decide +kernel
theorem d_RR_kind_21 : decode prog_1_method_13_code 21 = .ok (.aload_n 0, 1) := by decide +kernel
theorem d_RR_kind_22 : decode prog_1_method_13_code 22 = .ok (.iconst 1, 1) := by decide +kernel
theorem d_RR_kind_23 : decode prog_1_method_13_code 23 = .ok (.invokevirtual 51, 3) := by decide +kernel
theorem d_RR_kind_26 : decode prog_1_method_13_code 26 = .ok (.goto 11, 3) := by decide +kernel
theorem d_RR_kind_29 : decode prog_1_method_13_code 29 = .ok (.aload_n 0, 1) := by decide +kernel
theorem d_RR_kind_30 : decode prog_1_method_13_code 30 = .ok (.aload_n 2, 1) := by decide +kernel
theorem d_RR_kind_31 : decode prog_1_method_13_code 31 = .ok (.invokevirtual 146, 3) := by decide +kernel
theorem d_RR_kind_34 : decode prog_1_method_13_code 34 = .ok (.invokevirtual 58, 3) := by decide +kernel
theorem d_RR_kind_37 : decode prog_1_method_13_code 37 = .ok (.ireturn, 1) := by decide +kernel
theorem d_RR_is_0 : decode prog_1_method_14_code 0 = .ok (.iload_n 1, 1) := by decide +kernel
theorem d_RR_is_1 : decode prog_1_method_14_code 1 = .ok (.invokestatic 80, 3) := by decide +kernel
theorem d_RR_is_4 : decode prog_1_method_14_code 4 = .ok (.ifCond .eq 13, 3) := by decide +kernel
theorem d_RR_is_7 : decode prog_1_method_14_code 7 = .ok (.iload_n 2, 1) := by decide +kernel
theorem d_RR_is_8 : decode prog_1_method_14_code 8 = .ok (.ifCond .lt 9, 3) := by decide +kernel
theorem d_RR_is_11 : decode prog_1_method_14_code 11 = .ok (.iload_n 2, 1) := by decide +kernel
theorem d_RR_is_12 : decode prog_1_method_14_code 12 = .ok (.bipush 9, 2) := by decide +kernel
theorem d_RR_is_14 : decode prog_1_method_14_code 14 = .ok (.if_icmp .lt 6, 3) := by decide +kernel
theorem d_RR_is_17 : decode prog_1_method_14_code 17 = .ok (.ldc 50, 2) := by decide +kernel
theorem d_RR_is_19 : decode prog_1_method_14_code 19 = .ok (.ireturn, 1) := by decide +kernel
theorem d_RR_is_20 : decode prog_1_method_14_code 20 = .ok (.aload_n 0, 1) := by decide +kernel
theorem d_RR_is_21 : decode prog_1_method_14_code 21 = .ok (.getfield 17, 3) := by decide +kernel
theorem d_RR_is_24 : decode prog_1_method_14_code 24 = .ok (.iload_n 1, 1) := by decide +kernel
theorem d_RR_is_25 : decode prog_1_method_14_code 25 = .ok (.aaload, 1) := by decide +kernel
theorem d_RR_is_26 : decode prog_1_method_14_code 26 = .ok (.iload_n 2, 1) := by decide +kernel
theorem d_RR_is_27 : decode prog_1_method_14_code 27 = .ok (.invokestatic 150, 3) := by decide +kernel
theorem d_RR_is_30 : decode prog_1_method_14_code 30 = .ok (.ifCond .eq 7, 3) := by decide +kernel
theorem d_RR_is_33 : decode prog_1_method_14_code 33 = .ok (.iconst 1, 1) := by decide +kernel
theorem d_RR_is_34 : decode prog_1_method_14_code 34 = .ok (.goto 4, 3) := by decide +kernel
theorem d_RR_is_37 : decode prog_1_method_14_code 37 = .ok (.iconst 0, 1) := by decide +kernel
theorem d_RR_is_38 : decode prog_1_method_14_code 38 = .ok (.ireturn, 1) := by decide +kernel
theorem d_RR_isOfKind_0 : decode prog_1_method_40_code 0 = .ok (.iload_n 1, 1) := by decide +kernel
theorem d_RR_isOfKind_1 : decode prog_1_method_40_code 1 = .ok (.tableswitch 92 0 7 #[47, 57, 62, 67, 72, 77, 82, 87], 47) := by decide +kernel
theorem d_RR_isOfKind_48 : decode prog_1_method_40_code 48 = .ok (.aload_n 0, 1) := by decide +kernel
theorem d_RR_isOfKind_49 : decode prog_1_method_40_code 49 = .ok (.ifnull 7, 3) := by decide +kernel
theorem d_RR_isOfKind_52 : decode prog_1_method_40_code 52 = .ok (.iconst 1, 1) := by decide +kernel
theorem d_RR_isOfKind_53 : decode prog_1_method_40_code 53 = .ok (.goto 4, 3) := by decide +kernel
theorem d_RR_isOfKind_56 : decode prog_1_method_40_code 56 = .ok (.iconst 0, 1) := by decide +kernel
theorem d_RR_isOfKind_57 : decode prog_1_method_40_code 57 = .ok (.ireturn, 1) := by decide +kernel
theorem d_RR_isOfKind_58 : decode prog_1_method_40_code 58 = .ok (.aload_n 0, 1) := by decide +kernel
theorem d_RR_isOfKind_59 : decode prog_1_method_40_code 59 = .ok (.instanceof 171, 3) := by decide +kernel
theorem d_RR_isOfKind_62 : decode prog_1_method_40_code 62 = .ok (.ireturn, 1) := by decide +kernel
theorem d_RR_isOfKind_63 : decode prog_1_method_40_code 63 = .ok (.aload_n 0, 1) := by decide +kernel
theorem d_RR_isOfKind_64 : decode prog_1_method_40_code 64 = .ok (.instanceof 91, 3) := by decide +kernel
theorem d_RR_isOfKind_67 : decode prog_1_method_40_code 67 = .ok (.ireturn, 1) := by decide +kernel
theorem d_RR_isOfKind_68 : decode prog_1_method_40_code 68 = .ok (.aload_n 0, 1) := by decide +kernel
theorem d_RR_isOfKind_69 : decode prog_1_method_40_code 69 = .ok (.instanceof 231, 3) := by decide +kernel
theorem d_RR_isOfKind_72 : decode prog_1_method_40_code 72 = .ok (.ireturn, 1) := by decide +kernel
theorem d_RR_isOfKind_73 : decode prog_1_method_40_code 73 = .ok (.aload_n 0, 1) := by decide +kernel
theorem d_RR_isOfKind_74 : decode prog_1_method_40_code 74 = .ok (.instanceof 233, 3) := by decide +kernel
theorem d_RR_isOfKind_77 : decode prog_1_method_40_code 77 = .ok (.ireturn, 1) := by decide +kernel
theorem d_RR_isOfKind_78 : decode prog_1_method_40_code 78 = .ok (.aload_n 0, 1) := by decide +kernel
theorem d_RR_isOfKind_79 : decode prog_1_method_40_code 79 = .ok (.instanceof 137, 3) := by decide +kernel
theorem d_RR_isOfKind_82 : decode prog_1_method_40_code 82 = .ok (.ireturn, 1) := by decide +kernel
theorem d_RR_isOfKind_83 : decode prog_1_method_40_code 83 = .ok (.aload_n 0, 1) := by decide +kernel
theorem d_RR_isOfKind_84 : decode prog_1_method_40_code 84 = .ok (.instanceof 235, 3) := by decide +kernel
theorem d_RR_isOfKind_87 : decode prog_1_method_40_code 87 = .ok (.ireturn, 1) := by decide +kernel
theorem d_RR_isOfKind_88 : decode prog_1_method_40_code 88 = .ok (.aload_n 0, 1) := by decide +kernel
theorem d_RR_isOfKind_89 : decode prog_1_method_40_code 89 = .ok (.instanceof 205, 3) := by decide +kernel
theorem d_RR_isOfKind_92 : decode prog_1_method_40_code 92 = .ok (.ireturn, 1) := by decide +kernel
theorem d_RR_isOfKind_93 : decode prog_1_method_40_code 93 = .ok (.aload_n 0, 1) := by decide +kernel
theorem d_RR_isOfKind_94 : decode prog_1_method_40_code 94 = .ok (.instanceof 237, 3) := by decide +kernel
theorem d_RR_isOfKind_97 : decode prog_1_method_40_code 97 = .ok (.ireturn, 1) := by decide +kernel
theorem d_RR_as_0 : decode prog_1_method_15_code 0 = .ok (.iload_n 1, 1) := by decide +kernel
theorem d_RR_as_1 : decode prog_1_method_15_code 1 = .ok (.invokestatic 80, 3) := by decide +kernel
theorem d_RR_as_4 : decode prog_1_method_15_code 4 = .ok (.ifCond .eq 13, 3) := by decide +kernel
theorem d_RR_as_7 : decode prog_1_method_15_code 7 = .ok (.iload_n 2, 1) := by decide +kernel
theorem d_RR_as_8 : decode prog_1_method_15_code 8 = .ok (.ifCond .lt 9, 3) := by decide +kernel
theorem d_RR_as_11 : decode prog_1_method_15_code 11 = .ok (.iload_n 2, 1) := by decide +kernel
theorem d_RR_as_12 : decode prog_1_method_15_code 12 = .ok (.bipush 9, 2) := by decide +kernel
theorem d_RR_as_14 : decode prog_1_method_15_code 14 = .ok (.if_icmp .lt 6, 3) := by decide +kernel
theorem d_RR_as_17 : decode prog_1_method_15_code 17 = .ok (.ldc 50, 2) := by decide +kernel
theorem d_RR_as_19 : decode prog_1_method_15_code 19 = .ok (.ireturn, 1) := by decide +kernel
theorem d_RR_as_20 : decode prog_1_method_15_code 20 = .ok (.aload_n 0, 1) := by decide +kernel
theorem d_RR_as_21 : decode prog_1_method_15_code 21 = .ok (.getfield 17, 3) := by decide +kernel
theorem d_RR_as_24 : decode prog_1_method_15_code 24 = .ok (.iload_n 1, 1) := by decide +kernel
theorem d_RR_as_25 : decode prog_1_method_15_code 25 = .ok (.aaload, 1) := by decide +kernel
theorem d_RR_as_26 : decode prog_1_method_15_code 26 = .ok (.astore_n 3, 1) := by decide +kernel
theorem d_RR_as_27 : decode prog_1_method_15_code 27 = .ok (.aload_n 3, 1) := by decide +kernel
theorem d_RR_as_28 : decode prog_1_method_15_code 28 = .ok (.ifnonnull 9, 3) := by decide +kernel
theorem d_RR_as_31 : decode prog_1_method_15_code 31 = .ok (.aload_n 0, 1) := by decide +kernel
theorem d_RR_as_32 : decode prog_1_method_15_code 32 = .ok (.iconst 1, 1) := by decide +kernel
theorem d_RR_as_33 : decode prog_1_method_15_code 33 = .ok (.invokevirtual 51, 3) := by decide +kernel
theorem d_RR_as_36 : decode prog_1_method_15_code 36 = .ok (.ireturn, 1) := by decide +kernel
theorem d_RR_as_37 : decode prog_1_method_15_code 37 = .ok (.aload_n 3, 1) := by decide +kernel
theorem d_RR_as_38 : decode prog_1_method_15_code 38 = .ok (.iload_n 2, 1) := by decide +kernel
theorem d_RR_as_39 : decode prog_1_method_15_code 39 = .ok (.invokestatic 150, 3) := by decide +kernel
theorem d_RR_as_42 : decode prog_1_method_15_code 42 = .ok (.ifCond .eq 14, 3) := by decide +kernel
theorem d_RR_as_45 : decode prog_1_method_15_code 45 = .ok (.aload_n 0, 1) := by decide +kernel
theorem d_RR_as_46 : decode prog_1_method_15_code 46 = .ok (.aload_n 3, 1) := by decide +kernel
theorem d_RR_as_47 : decode prog_1_method_15_code 47 = .ok (.getfield 154, 3) := by decide +kernel
theorem d_RR_as_50 : decode prog_1_method_15_code 50 = .ok (.invokevirtual 58, 3) := by decide +kernel
theorem d_RR_as_53 : decode prog_1_method_15_code 53 = .ok (.goto 8, 3) := by decide +kernel
theorem d_RR_as_56 : decode prog_1_method_15_code 56 = .ok (.aload_n 0, 1) := by decide +kernel
theorem d_RR_as_57 : decode prog_1_method_15_code 57 = .ok (.iconst 3, 1) := by decide +kernel
theorem d_RR_as_58 : decode prog_1_method_15_code 58 = .ok (.invokevirtual 51, 3) := by decide +kernel
theorem d_RR_as_61 : decode prog_1_method_15_code 61 = .ok (.ireturn, 1) := by decide +kernel
theorem d_RR_ask_0 : decode prog_1_method_16_code 0 = .ok (.iload_n 1, 1) := by decide +kernel
theorem d_RR_ask_1 : decode prog_1_method_16_code 1 = .ok (.invokestatic 80, 3) := by decide +kernel
theorem d_RR_ask_4 : decode prog_1_method_16_code 4 = .ok (.ifCond .eq 12, 3) := by decide +kernel
theorem d_RR_ask_7 : decode prog_1_method_16_code 7 = .ok (.iload_n 2, 1) := by decide +kernel
theorem d_RR_ask_8 : decode prog_1_method_16_code 8 = .ok (.ifCond .lt 8, 3) := by decide +kernel
theorem d_RR_ask_11 : decode prog_1_method_16_code 11 = .ok (.iload_n 2, 1) := by decide +kernel
theorem d_RR_ask_12 : decode prog_1_method_16_code 12 = .ok (.iconst 3, 1) := by decide +kernel
theorem d_RR_ask_13 : decode prog_1_method_16_code 13 = .ok (.if_icmp .lt 6, 3) := by decide +kernel
theorem d_RR_ask_16 : decode prog_1_method_16_code 16 = .ok (.ldc 50, 2) := by decide +kernel
theorem d_RR_ask_18 : decode prog_1_method_16_code 18 = .ok (.ireturn, 1) := by decide +kernel
theorem d_RR_ask_19 : decode prog_1_method_16_code 19 = .ok (.aload_n 0, 1) := by decide +kernel
theorem d_RR_ask_20 : decode prog_1_method_16_code 20 = .ok (.getfield 24, 3) := by decide +kernel
theorem d_RR_ask_23 : decode prog_1_method_16_code 23 = .ok (.iconst 0, 1) := by decide +kernel
theorem d_RR_ask_24 : decode prog_1_method_16_code 24 = .ok (.putfield 155, 3) := by decide +kernel
theorem d_RR_ask_27 : decode prog_1_method_16_code 27 = .ok (.aload_n 0, 1) := by decide +kernel
theorem d_RR_ask_28 : decode prog_1_method_16_code 28 = .ok (.getfield 17, 3) := by decide +kernel
theorem d_RR_ask_31 : decode prog_1_method_16_code 31 = .ok (.iload_n 1, 1) := by decide +kernel
theorem d_RR_ask_32 : decode prog_1_method_16_code 32 = .ok (.aaload, 1) := by decide +kernel
theorem d_RR_ask_33 : decode prog_1_method_16_code 33 = .ok (.astore_n 3, 1) := by decide +kernel
theorem d_RR_ask_34 : decode prog_1_method_16_code 34 = .ok (.aload_n 3, 1) := by decide +kernel
theorem d_RR_ask_35 : decode prog_1_method_16_code 35 = .ok (.ifnonnull 9, 3) := by decide +kernel
theorem d_RR_ask_38 : decode prog_1_method_16_code 38 = .ok (.aload_n 0, 1) := by decide +kernel
theorem d_RR_ask_39 : decode prog_1_method_16_code 39 = .ok (.iconst 1, 1) := by decide +kernel
theorem d_RR_ask_40 : decode prog_1_method_16_code 40 = .ok (.invokevirtual 51, 3) := by decide +kernel
theorem d_RR_ask_43 : decode prog_1_method_16_code 43 = .ok (.ireturn, 1) := by decide +kernel
theorem d_RR_ask_44 : decode prog_1_method_16_code 44 = .ok (.iload_n 2, 1) := by decide +kernel
theorem d_RR_ask_45 : decode prog_1_method_16_code 45 = .ok (.lookupswitch 53 #[(0, 27), (1, 40)], 27) := by decide +kernel
theorem d_RR_ask_72 : decode prog_1_method_16_code 72 = .ok (.aload_n 0, 1) := by decide +kernel
theorem d_RR_ask_73 : decode prog_1_method_16_code 73 = .ok (.aload_n 3, 1) := by decide +kernel
theorem d_RR_ask_74 : decode prog_1_method_16_code 74 = .ok (.aload_n 0, 1) := by decide +kernel
theorem d_RR_ask_75 : decode prog_1_method_16_code 75 = .ok (.getfield 24, 3) := by decide +kernel
theorem d_RR_ask_78 : decode prog_1_method_16_code 78 = .ok (.invokevirtual 158, 3) := by decide +kernel
theorem d_RR_ask_81 : decode prog_1_method_16_code 81 = .ok (.invokevirtual 58, 3) := by decide +kernel
theorem d_RR_ask_84 : decode prog_1_method_16_code 84 = .ok (.ireturn, 1) := by decide +kernel
theorem d_RR_ask_85 : decode prog_1_method_16_code 85 = .ok (.aload_n 0, 1) := by decide +kernel
theorem d_RR_ask_86 : decode prog_1_method_16_code 86 = .ok (.aload_n 3, 1) := by decide +kernel
theorem d_RR_ask_87 : decode prog_1_method_16_code 87 = .ok (.aload_n 0, 1) := by decide +kernel
theorem d_RR_ask_88 : decode prog_1_method_16_code 88 = .ok (.getfield 24, 3) := by decide +kernel
theorem d_RR_ask_91 : decode prog_1_method_16_code 91 = .ok (.invokevirtual 162, 3) := by decide +kernel
theorem d_RR_ask_94 : decode prog_1_method_16_code 94 = .ok (.invokevirtual 58, 3) := by decide +kernel
theorem d_RR_ask_97 : decode prog_1_method_16_code 97 = .ok (.ireturn, 1) := by decide +kernel
theorem d_RR_ask_98 : decode prog_1_method_16_code 98 = .ok (.aload_n 0, 1) := by decide +kernel
theorem d_RR_ask_99 : decode prog_1_method_16_code 99 = .ok (.aload_n 3, 1) := by decide +kernel
theorem d_RR_ask_100 : decode prog_1_method_16_code 100 = .ok (.aload_n 0, 1) := by decide +kernel
theorem d_RR_ask_101 : decode prog_1_method_16_code 101 = .ok (.getfield 24, 3) := by decide +kernel
theorem d_RR_ask_104 : decode prog_1_method_16_code 104 = .ok (.invokevirtual 165, 3) := by decide +kernel
theorem d_RR_ask_107 : decode prog_1_method_16_code 107 = .ok (.invokevirtual 58, 3) := by decide +kernel
theorem d_RR_ask_110 : decode prog_1_method_16_code 110 = .ok (.ireturn, 1) := by decide +kernel
theorem d_La_askSize_0 : decode prog_4_method_4_code 0 = .ok (.aload_n 1, 1) := by decide +kernel
theorem d_La_askSize_1 : decode prog_4_method_4_code 1 = .ok (.bipush 11, 2) := by decide +kernel
theorem d_La_askSize_3 : decode prog_4_method_4_code 3 = .ok (.invokevirtual 32, 3) := by decide +kernel
theorem d_La_askSize_6 : decode prog_4_method_4_code 6 = .ok (.iconst 2, 1) := by decide +kernel
theorem d_La_askSize_7 : decode prog_4_method_4_code 7 = .ok (.aload_n 0, 1) := by decide +kernel
theorem d_La_askSize_8 : decode prog_4_method_4_code 8 = .ok (.aload_n 1, 1) := by decide +kernel
theorem d_La_askSize_9 : decode prog_4_method_4_code 9 = .ok (.invokespecial 37, 3) := by decide +kernel
theorem d_La_askSize_12 : decode prog_4_method_4_code 12 = .ok (.imul, 1) := by decide +kernel
theorem d_La_askSize_13 : decode prog_4_method_4_code 13 = .ok (.ireturn, 1) := by decide +kernel
theorem d_Tr_leave_0 : decode prog_12_method_2_code 0 = .ok (.aload_n 0, 1) := by decide +kernel
theorem d_Tr_leave_1 : decode prog_12_method_2_code 1 = .ok (.getfield 13, 3) := by decide +kernel
theorem d_Tr_leave_4 : decode prog_12_method_2_code 4 = .ok (.aload_n 0, 1) := by decide +kernel
theorem d_Tr_leave_5 : decode prog_12_method_2_code 5 = .ok (.getfield 7, 3) := by decide +kernel
theorem d_Tr_leave_8 : decode prog_12_method_2_code 8 = .ok (.arraylength, 1) := by decide +kernel
theorem d_Tr_leave_9 : decode prog_12_method_2_code 9 = .ok (.if_icmp .ge 23, 3) := by decide +kernel
theorem d_Tr_leave_12 : decode prog_12_method_2_code 12 = .ok (.aload_n 0, 1) := by decide +kernel
theorem d_Tr_leave_13 : decode prog_12_method_2_code 13 = .ok (.getfield 7, 3) := by decide +kernel
theorem d_Tr_leave_16 : decode prog_12_method_2_code 16 = .ok (.aload_n 0, 1) := by decide +kernel
theorem d_Tr_leave_17 : decode prog_12_method_2_code 17 = .ok (.getfield 13, 3) := by decide +kernel
theorem d_Tr_leave_20 : decode prog_12_method_2_code 20 = .ok (.iload_n 1, 1) := by decide +kernel
theorem d_Tr_leave_21 : decode prog_12_method_2_code 21 = .ok (.iastore, 1) := by decide +kernel
theorem d_Tr_leave_22 : decode prog_12_method_2_code 22 = .ok (.aload_n 0, 1) := by decide +kernel
theorem d_Tr_leave_23 : decode prog_12_method_2_code 23 = .ok (.dup, 1) := by decide +kernel
theorem d_Tr_leave_24 : decode prog_12_method_2_code 24 = .ok (.getfield 13, 3) := by decide +kernel
theorem d_Tr_leave_27 : decode prog_12_method_2_code 27 = .ok (.iconst 1, 1) := by decide +kernel
theorem d_Tr_leave_28 : decode prog_12_method_2_code 28 = .ok (.iadd, 1) := by decide +kernel
theorem d_Tr_leave_29 : decode prog_12_method_2_code 29 = .ok (.putfield 13, 3) := by decide +kernel
theorem d_Tr_leave_32 : decode prog_12_method_2_code 32 = .ok (.return_, 1) := by decide +kernel
theorem d_Th_askSize_0 : decode prog_11_method_3_code 0 = .ok (.aload_n 1, 1) := by decide +kernel
theorem d_Th_askSize_1 : decode prog_11_method_3_code 1 = .ok (.bipush 10, 2) := by decide +kernel
theorem d_Th_askSize_3 : decode prog_11_method_3_code 3 = .ok (.invokevirtual 13, 3) := by decide +kernel
theorem d_Th_askSize_6 : decode prog_11_method_3_code 6 = .ok (.aload_n 0, 1) := by decide +kernel
theorem d_Th_askSize_7 : decode prog_11_method_3_code 7 = .ok (.getfield 7, 3) := by decide +kernel
theorem d_Th_askSize_10 : decode prog_11_method_3_code 10 = .ok (.ireturn, 1) := by decide +kernel
theorem d_Ar_askWorth_0 : decode prog_2_method_3_code 0 = .ok (.aload_n 1, 1) := by decide +kernel
theorem d_Ar_askWorth_1 : decode prog_2_method_3_code 1 = .ok (.bipush 21, 2) := by decide +kernel
theorem d_Ar_askWorth_3 : decode prog_2_method_3_code 3 = .ok (.invokevirtual 13, 3) := by decide +kernel
theorem d_Ar_askWorth_6 : decode prog_2_method_3_code 6 = .ok (.iconst 0, 1) := by decide +kernel
theorem d_Ar_askWorth_7 : decode prog_2_method_3_code 7 = .ok (.istore_n 2, 1) := by decide +kernel
theorem d_Ar_askWorth_8 : decode prog_2_method_3_code 8 = .ok (.iconst 0, 1) := by decide +kernel
theorem d_Ar_askWorth_9 : decode prog_2_method_3_code 9 = .ok (.istore_n 3, 1) := by decide +kernel
theorem d_Ar_askWorth_10 : decode prog_2_method_3_code 10 = .ok (.iload_n 3, 1) := by decide +kernel
theorem d_Ar_askWorth_11 : decode prog_2_method_3_code 11 = .ok (.aload_n 0, 1) := by decide +kernel
theorem d_Ar_askWorth_12 : decode prog_2_method_3_code 12 = .ok (.getfield 7, 3) := by decide +kernel
theorem d_Ar_askWorth_15 : decode prog_2_method_3_code 15 = .ok (.arraylength, 1) := by decide +kernel
theorem d_Ar_askWorth_16 : decode prog_2_method_3_code 16 = .ok (.if_icmp .ge 29, 3) := by decide +kernel
theorem d_Ar_askWorth_19 : decode prog_2_method_3_code 19 = .ok (.iload_n 2, 1) := by decide +kernel
theorem d_Ar_askWorth_20 : decode prog_2_method_3_code 20 = .ok (.aload_n 0, 1) := by decide +kernel
theorem d_Ar_askWorth_21 : decode prog_2_method_3_code 21 = .ok (.getfield 7, 3) := by decide +kernel
theorem d_Ar_askWorth_24 : decode prog_2_method_3_code 24 = .ok (.iload_n 3, 1) := by decide +kernel
theorem d_Ar_askWorth_25 : decode prog_2_method_3_code 25 = .ok (.iaload, 1) := by decide +kernel
theorem d_Ar_askWorth_26 : decode prog_2_method_3_code 26 = .ok (.iload_n 3, 1) := by decide +kernel
theorem d_Ar_askWorth_27 : decode prog_2_method_3_code 27 = .ok (.iconst 1, 1) := by decide +kernel
theorem d_Ar_askWorth_28 : decode prog_2_method_3_code 28 = .ok (.iadd, 1) := by decide +kernel
theorem d_Ar_askWorth_29 : decode prog_2_method_3_code 29 = .ok (.if_icmp .ne 7, 3) := by decide +kernel
theorem d_Ar_askWorth_32 : decode prog_2_method_3_code 32 = .ok (.iconst 1, 1) := by decide +kernel
theorem d_Ar_askWorth_33 : decode prog_2_method_3_code 33 = .ok (.goto 4, 3) := by decide +kernel
theorem d_Ar_askWorth_36 : decode prog_2_method_3_code 36 = .ok (.iconst 0, 1) := by decide +kernel
theorem d_Ar_askWorth_37 : decode prog_2_method_3_code 37 = .ok (.iadd, 1) := by decide +kernel
theorem d_Ar_askWorth_38 : decode prog_2_method_3_code 38 = .ok (.istore_n 2, 1) := by decide +kernel
theorem d_Ar_askWorth_39 : decode prog_2_method_3_code 39 = .ok (.iinc 3 1, 3) := by decide +kernel
theorem d_Ar_askWorth_42 : decode prog_2_method_3_code 42 = .ok (.goto (-32), 3) := by decide +kernel
theorem d_Ar_askWorth_45 : decode prog_2_method_3_code 45 = .ok (.iload_n 2, 1) := by decide +kernel
theorem d_Ar_askWorth_46 : decode prog_2_method_3_code 46 = .ok (.ireturn, 1) := by decide +kernel
theorem d_Fo_askWorth_0 : decode prog_3_method_3_code 0 = .ok (.aload_n 1, 1) := by decide +kernel
theorem d_Fo_askWorth_1 : decode prog_3_method_3_code 1 = .ok (.bipush 26, 2) := by decide +kernel
theorem d_Fo_askWorth_3 : decode prog_3_method_3_code 3 = .ok (.invokevirtual 10, 3) := by decide +kernel
theorem d_Fo_askWorth_6 : decode prog_3_method_3_code 6 = .ok (.aload_n 0, 1) := by decide +kernel
theorem d_Fo_askWorth_7 : decode prog_3_method_3_code 7 = .ok (.aload_n 1, 1) := by decide +kernel
theorem d_Fo_askWorth_8 : decode prog_3_method_3_code 8 = .ok (.invokespecial 16, 3) := by decide +kernel
theorem d_Fo_askWorth_11 : decode prog_3_method_3_code 11 = .ok (.bipush 100, 2) := by decide +kernel
theorem d_Fo_askWorth_13 : decode prog_3_method_3_code 13 = .ok (.iadd, 1) := by decide +kernel
theorem d_Fo_askWorth_14 : decode prog_3_method_3_code 14 = .ok (.ireturn, 1) := by decide +kernel
theorem d_St_askWorth_0 : decode prog_10_method_3_code 0 = .ok (.aload_n 1, 1) := by decide +kernel
theorem d_St_askWorth_1 : decode prog_10_method_3_code 1 = .ok (.bipush 25, 2) := by decide +kernel
theorem d_St_askWorth_3 : decode prog_10_method_3_code 3 = .ok (.invokevirtual 23, 3) := by decide +kernel
theorem d_St_askWorth_6 : decode prog_10_method_3_code 6 = .ok (.aload_n 0, 1) := by decide +kernel
theorem d_St_askWorth_7 : decode prog_10_method_3_code 7 = .ok (.getfield 13, 3) := by decide +kernel
theorem d_St_askWorth_10 : decode prog_10_method_3_code 10 = .ok (.iconst 0, 1) := by decide +kernel
theorem d_St_askWorth_11 : decode prog_10_method_3_code 11 = .ok (.iaload, 1) := by decide +kernel
theorem d_St_askWorth_12 : decode prog_10_method_3_code 12 = .ok (.ireturn, 1) := by decide +kernel
theorem d_La_askWorth_0 : decode prog_4_method_5_code 0 = .ok (.aload_n 1, 1) := by decide +kernel
theorem d_La_askWorth_1 : decode prog_4_method_5_code 1 = .ok (.bipush 23, 2) := by decide +kernel
theorem d_La_askWorth_3 : decode prog_4_method_5_code 3 = .ok (.invokevirtual 32, 3) := by decide +kernel
theorem d_La_askWorth_6 : decode prog_4_method_5_code 6 = .ok (.aload_n 0, 1) := by decide +kernel
theorem d_La_askWorth_7 : decode prog_4_method_5_code 7 = .ok (.getfield 26, 3) := by decide +kernel
theorem d_La_askWorth_10 : decode prog_4_method_5_code 10 = .ok (.ireturn, 1) := by decide +kernel
theorem d_Lo_askWorth_0 : decode prog_5_method_3_code 0 = .ok (.aload_n 1, 1) := by decide +kernel
theorem d_Lo_askWorth_1 : decode prog_5_method_3_code 1 = .ok (.bipush 24, 2) := by decide +kernel
theorem d_Lo_askWorth_3 : decode prog_5_method_3_code 3 = .ok (.invokevirtual 7, 3) := by decide +kernel
theorem d_Lo_askWorth_6 : decode prog_5_method_3_code 6 = .ok (.aload_n 0, 1) := by decide +kernel
theorem d_Lo_askWorth_7 : decode prog_5_method_3_code 7 = .ok (.aload_n 1, 1) := by decide +kernel
theorem d_Lo_askWorth_8 : decode prog_5_method_3_code 8 = .ok (.invokespecial 13, 3) := by decide +kernel
theorem d_Lo_askWorth_11 : decode prog_5_method_3_code 11 = .ok (.aload_n 0, 1) := by decide +kernel
theorem d_Lo_askWorth_12 : decode prog_5_method_3_code 12 = .ok (.aload_n 1, 1) := by decide +kernel
theorem d_Lo_askWorth_13 : decode prog_5_method_3_code 13 = .ok (.invokevirtual 17, 3) := by decide +kernel
theorem d_Lo_askWorth_16 : decode prog_5_method_3_code 16 = .ok (.imul, 1) := by decide +kernel
theorem d_Lo_askWorth_17 : decode prog_5_method_3_code 17 = .ok (.ireturn, 1) := by decide +kernel
theorem d_Ne_askWorth_0 : decode prog_6_method_3_code 0 = .ok (.aload_n 1, 1) := by decide +kernel
theorem d_Ne_askWorth_1 : decode prog_6_method_3_code 1 = .ok (.bipush 22, 2) := by decide +kernel
theorem d_Ne_askWorth_3 : decode prog_6_method_3_code 3 = .ok (.invokevirtual 7, 3) := by decide +kernel
theorem d_Ne_askWorth_6 : decode prog_6_method_3_code 6 = .ok (.aload_n 0, 1) := by decide +kernel
theorem d_Ne_askWorth_7 : decode prog_6_method_3_code 7 = .ok (.aload_n 1, 1) := by decide +kernel
theorem d_Ne_askWorth_8 : decode prog_6_method_3_code 8 = .ok (.invokespecial 13, 3) := by decide +kernel
theorem d_Ne_askWorth_11 : decode prog_6_method_3_code 11 = .ok (.aload_n 0, 1) := by decide +kernel
theorem d_Ne_askWorth_12 : decode prog_6_method_3_code 12 = .ok (.aload_n 1, 1) := by decide +kernel
theorem d_Ne_askWorth_13 : decode prog_6_method_3_code 13 = .ok (.invokevirtual 17, 3) := by decide +kernel
theorem d_Ne_askWorth_16 : decode prog_6_method_3_code 16 = .ok (.iadd, 1) := by decide +kernel
theorem d_Ne_askWorth_17 : decode prog_6_method_3_code 17 = .ok (.ireturn, 1) := by decide +kernel
theorem d_Row_askWorth_0 : decode prog_8_method_3_code 0 = .ok (.aload_n 1, 1) := by decide +kernel
theorem d_Row_askWorth_1 : decode prog_8_method_3_code 1 = .ok (.bipush 20, 2) := by decide +kernel
theorem d_Row_askWorth_3 : decode prog_8_method_3_code 3 = .ok (.invokevirtual 13, 3) := by decide +kernel
theorem d_Row_askWorth_6 : decode prog_8_method_3_code 6 = .ok (.aload_n 0, 1) := by decide +kernel
theorem d_Row_askWorth_7 : decode prog_8_method_3_code 7 = .ok (.getfield 7, 3) := by decide +kernel
theorem d_Row_askWorth_10 : decode prog_8_method_3_code 10 = .ok (.invokestatic 18, 3) := by decide +kernel
theorem d_Row_askWorth_13 : decode prog_8_method_3_code 13 = .ok (.ireturn, 1) := by decide +kernel
theorem d_JL_bitCount_0 : decode prog_16_method_50_code 0 = .ok (.lload_n 0, 1) := by decide +kernel
theorem d_JL_bitCount_1 : decode prog_16_method_50_code 1 = .ok (.lload_n 0, 1) := by decide +kernel
theorem d_JL_bitCount_2 : decode prog_16_method_50_code 2 = .ok (.iconst 1, 1) := by decide +kernel
theorem d_JL_bitCount_3 : decode prog_16_method_50_code 3 = .ok (.lushr, 1) := by decide +kernel
theorem d_JL_bitCount_4 : decode prog_16_method_50_code 4 = .ok (.ldc2_w 314, 3) := by decide +kernel
theorem d_JL_bitCount_7 : decode prog_16_method_50_code 7 = .ok (.land, 1) := by decide +kernel
theorem d_JL_bitCount_8 : decode prog_16_method_50_code 8 = .ok (.lsub, 1) := by decide +kernel
theorem d_JL_bitCount_9 : decode prog_16_method_50_code 9 = .ok (.lstore_n 0, 1) := by decide +kernel
theorem d_JL_bitCount_10 : decode prog_16_method_50_code 10 = .ok (.lload_n 0, 1) := by decide +kernel
theorem d_JL_bitCount_11 : decode prog_16_method_50_code 11 = .ok (.ldc2_w 316, 3) := by decide +kernel
theorem d_JL_bitCount_14 : decode prog_16_method_50_code 14 = .ok (.land, 1) := by decide +kernel
theorem d_JL_bitCount_15 : decode prog_16_method_50_code 15 = .ok (.lload_n 0, 1) := by decide +kernel
theorem d_JL_bitCount_16 : decode prog_16_method_50_code 16 = .ok (.iconst 2, 1) := by decide +kernel
theorem d_JL_bitCount_17 : decode prog_16_method_50_code 17 = .ok (.lushr, 1) := by decide +kernel
theorem d_JL_bitCount_18 : decode prog_16_method_50_code 18 = .ok (.ldc2_w 316, 3) := by decide +kernel
theorem d_JL_bitCount_21 : decode prog_16_method_50_code 21 = .ok (.land, 1) := by decide +kernel
theorem d_JL_bitCount_22 : decode prog_16_method_50_code 22 = .ok (.ladd, 1) := by decide +kernel
theorem d_JL_bitCount_23 : decode prog_16_method_50_code 23 = .ok (.lstore_n 0, 1) := by decide +kernel
theorem d_JL_bitCount_24 : decode prog_16_method_50_code 24 = .ok (.lload_n 0, 1) := by decide +kernel
theorem d_JL_bitCount_25 : decode prog_16_method_50_code 25 = .ok (.lload_n 0, 1) := by decide +kernel
theorem d_JL_bitCount_26 : decode prog_16_method_50_code 26 = .ok (.iconst 4, 1) := by decide +kernel
theorem d_JL_bitCount_27 : decode prog_16_method_50_code 27 = .ok (.lushr, 1) := by decide +kernel
theorem d_JL_bitCount_28 : decode prog_16_method_50_code 28 = .ok (.ladd, 1) := by decide +kernel
theorem d_JL_bitCount_29 : decode prog_16_method_50_code 29 = .ok (.ldc2_w 318, 3) := by decide +kernel
theorem d_JL_bitCount_32 : decode prog_16_method_50_code 32 = .ok (.land, 1) := by decide +kernel
theorem d_JL_bitCount_33 : decode prog_16_method_50_code 33 = .ok (.lstore_n 0, 1) := by decide +kernel
theorem d_JL_bitCount_34 : decode prog_16_method_50_code 34 = .ok (.lload_n 0, 1) := by decide +kernel
theorem d_JL_bitCount_35 : decode prog_16_method_50_code 35 = .ok (.lload_n 0, 1) := by decide +kernel
theorem d_JL_bitCount_36 : decode prog_16_method_50_code 36 = .ok (.bipush 8, 2) := by decide +kernel
theorem d_JL_bitCount_38 : decode prog_16_method_50_code 38 = .ok (.lushr, 1) := by decide +kernel
theorem d_JL_bitCount_39 : decode prog_16_method_50_code 39 = .ok (.ladd, 1) := by decide +kernel
theorem d_JL_bitCount_40 : decode prog_16_method_50_code 40 = .ok (.lstore_n 0, 1) := by decide +kernel
theorem d_JL_bitCount_41 : decode prog_16_method_50_code 41 = .ok (.lload_n 0, 1) := by decide +kernel
theorem d_JL_bitCount_42 : decode prog_16_method_50_code 42 = .ok (.lload_n 0, 1) := by decide +kernel
theorem d_JL_bitCount_43 : decode prog_16_method_50_code 43 = .ok (.bipush 16, 2) := by decide +kernel
theorem d_JL_bitCount_45 : decode prog_16_method_50_code 45 = .ok (.lushr, 1) := by decide +kernel
theorem d_JL_bitCount_46 : decode prog_16_method_50_code 46 = .ok (.ladd, 1) := by decide +kernel
theorem d_JL_bitCount_47 : decode prog_16_method_50_code 47 = .ok (.lstore_n 0, 1) := by decide +kernel
theorem d_JL_bitCount_48 : decode prog_16_method_50_code 48 = .ok (.lload_n 0, 1) := by decide +kernel
theorem d_JL_bitCount_49 : decode prog_16_method_50_code 49 = .ok (.lload_n 0, 1) := by decide +kernel
theorem d_JL_bitCount_50 : decode prog_16_method_50_code 50 = .ok (.bipush 32, 2) := by decide +kernel
theorem d_JL_bitCount_52 : decode prog_16_method_50_code 52 = .ok (.lushr, 1) := by decide +kernel
theorem d_JL_bitCount_53 : decode prog_16_method_50_code 53 = .ok (.ladd, 1) := by decide +kernel
theorem d_JL_bitCount_54 : decode prog_16_method_50_code 54 = .ok (.lstore_n 0, 1) := by decide +kernel
theorem d_JL_bitCount_55 : decode prog_16_method_50_code 55 = .ok (.lload_n 0, 1) := by decide +kernel
theorem d_JL_bitCount_56 : decode prog_16_method_50_code 56 = .ok (.l2i, 1) := by decide +kernel
theorem d_JL_bitCount_57 : decode prog_16_method_50_code 57 = .ok (.bipush 127, 2) := by decide +kernel
theorem d_JL_bitCount_59 : decode prog_16_method_50_code 59 = .ok (.iand, 1) := by decide +kernel
theorem d_JL_bitCount_60 : decode prog_16_method_50_code 60 = .ok (.ireturn, 1) := by decide +kernel
theorem d_Ar_askMark_0 : decode prog_2_method_4_code 0 = .ok (.aload_n 1, 1) := by decide +kernel
theorem d_Ar_askMark_1 : decode prog_2_method_4_code 1 = .ok (.bipush 31, 2) := by decide +kernel
theorem d_Ar_askMark_3 : decode prog_2_method_4_code 3 = .ok (.invokevirtual 13, 3) := by decide +kernel
theorem d_Ar_askMark_6 : decode prog_2_method_4_code 6 = .ok (.iconst 2, 1) := by decide +kernel
theorem d_Ar_askMark_7 : decode prog_2_method_4_code 7 = .ok (.aload_n 0, 1) := by decide +kernel
theorem d_Ar_askMark_8 : decode prog_2_method_4_code 8 = .ok (.aload_n 1, 1) := by decide +kernel
theorem d_Ar_askMark_9 : decode prog_2_method_4_code 9 = .ok (.invokespecial 19, 3) := by decide +kernel
theorem d_Ar_askMark_12 : decode prog_2_method_4_code 12 = .ok (.imul, 1) := by decide +kernel
theorem d_Ar_askMark_13 : decode prog_2_method_4_code 13 = .ok (.ireturn, 1) := by decide +kernel
theorem d_Fo_askMark_0 : decode prog_3_method_4_code 0 = .ok (.aload_n 1, 1) := by decide +kernel
theorem d_Fo_askMark_1 : decode prog_3_method_4_code 1 = .ok (.bipush 33, 2) := by decide +kernel
theorem d_Fo_askMark_3 : decode prog_3_method_4_code 3 = .ok (.invokevirtual 10, 3) := by decide +kernel
theorem d_Fo_askMark_6 : decode prog_3_method_4_code 6 = .ok (.aload_n 0, 1) := by decide +kernel
theorem d_Fo_askMark_7 : decode prog_3_method_4_code 7 = .ok (.aload_n 1, 1) := by decide +kernel
theorem d_Fo_askMark_8 : decode prog_3_method_4_code 8 = .ok (.invokespecial 20, 3) := by decide +kernel
theorem d_Fo_askMark_11 : decode prog_3_method_4_code 11 = .ok (.iconst 1, 1) := by decide +kernel
theorem d_Fo_askMark_12 : decode prog_3_method_4_code 12 = .ok (.isub, 1) := by decide +kernel
theorem d_Fo_askMark_13 : decode prog_3_method_4_code 13 = .ok (.ireturn, 1) := by decide +kernel
theorem d_Pe_askMark_0 : decode prog_7_method_3_code 0 = .ok (.aload_n 1, 1) := by decide +kernel
theorem d_Pe_askMark_1 : decode prog_7_method_3_code 1 = .ok (.bipush 32, 2) := by decide +kernel
theorem d_Pe_askMark_3 : decode prog_7_method_3_code 3 = .ok (.invokevirtual 7, 3) := by decide +kernel
theorem d_Pe_askMark_6 : decode prog_7_method_3_code 6 = .ok (.aload_n 0, 1) := by decide +kernel
theorem d_Pe_askMark_7 : decode prog_7_method_3_code 7 = .ok (.aload_n 1, 1) := by decide +kernel
theorem d_Pe_askMark_8 : decode prog_7_method_3_code 8 = .ok (.invokespecial 13, 3) := by decide +kernel
theorem d_Pe_askMark_11 : decode prog_7_method_3_code 11 = .ok (.aload_n 0, 1) := by decide +kernel
theorem d_Pe_askMark_12 : decode prog_7_method_3_code 12 = .ok (.aload_n 1, 1) := by decide +kernel
theorem d_Pe_askMark_13 : decode prog_7_method_3_code 13 = .ok (.invokevirtual 17, 3) := by decide +kernel
theorem d_Pe_askMark_16 : decode prog_7_method_3_code 16 = .ok (.iadd, 1) := by decide +kernel
theorem d_Pe_askMark_17 : decode prog_7_method_3_code 17 = .ok (.ireturn, 1) := by decide +kernel
theorem d_Th_askMark_0 : decode prog_11_method_5_code 0 = .ok (.aload_n 1, 1) := by decide +kernel
theorem d_Th_askMark_1 : decode prog_11_method_5_code 1 = .ok (.bipush 30, 2) := by decide +kernel
theorem d_Th_askMark_3 : decode prog_11_method_5_code 3 = .ok (.invokevirtual 13, 3) := by decide +kernel
theorem d_Th_askMark_6 : decode prog_11_method_5_code 6 = .ok (.aload_n 0, 1) := by decide +kernel
theorem d_Th_askMark_7 : decode prog_11_method_5_code 7 = .ok (.aload_n 1, 1) := by decide +kernel
theorem d_Th_askMark_8 : decode prog_11_method_5_code 8 = .ok (.invokevirtual 19, 3) := by decide +kernel
theorem d_Th_askMark_11 : decode prog_11_method_5_code 11 = .ok (.iconst 3, 1) := by decide +kernel
theorem d_Th_askMark_12 : decode prog_11_method_5_code 12 = .ok (.iadd, 1) := by decide +kernel
theorem d_Th_askMark_13 : decode prog_11_method_5_code 13 = .ok (.ireturn, 1) := by decide +kernel
theorem d_RR_trace_0 : decode prog_1_method_17_code 0 = .ok (.iload_n 1, 1) := by decide +kernel
theorem d_RR_trace_1 : decode prog_1_method_17_code 1 = .ok (.ifCond .lt 14, 3) := by decide +kernel
theorem d_RR_trace_4 : decode prog_1_method_17_code 4 = .ok (.iload_n 1, 1) := by decide +kernel
theorem d_RR_trace_5 : decode prog_1_method_17_code 5 = .ok (.aload_n 0, 1) := by decide +kernel
theorem d_RR_trace_6 : decode prog_1_method_17_code 6 = .ok (.getfield 24, 3) := by decide +kernel
theorem d_RR_trace_9 : decode prog_1_method_17_code 9 = .ok (.getfield 155, 3) := by decide +kernel
theorem d_RR_trace_12 : decode prog_1_method_17_code 12 = .ok (.if_icmp .lt 8, 3) := by decide +kernel
theorem d_RR_trace_15 : decode prog_1_method_17_code 15 = .ok (.ldc 117, 2) := by decide +kernel
theorem d_RR_trace_17 : decode prog_1_method_17_code 17 = .ok (.goto 12, 3) := by decide +kernel
theorem d_RR_trace_20 : decode prog_1_method_17_code 20 = .ok (.aload_n 0, 1) := by decide +kernel
theorem d_RR_trace_21 : decode prog_1_method_17_code 21 = .ok (.getfield 24, 3) := by decide +kernel
theorem d_RR_trace_24 : decode prog_1_method_17_code 24 = .ok (.getfield 168, 3) := by decide +kernel
theorem d_RR_trace_27 : decode prog_1_method_17_code 27 = .ok (.iload_n 1, 1) := by decide +kernel
theorem d_RR_trace_28 : decode prog_1_method_17_code 28 = .ok (.iaload, 1) := by decide +kernel
theorem d_RR_trace_29 : decode prog_1_method_17_code 29 = .ok (.ireturn, 1) := by decide +kernel
theorem d_RR_sign_0 : decode prog_1_method_18_code 0 = .ok (.iload_n 1, 1) := by decide +kernel
theorem d_RR_sign_1 : decode prog_1_method_18_code 1 = .ok (.invokestatic 80, 3) := by decide +kernel
theorem d_RR_sign_4 : decode prog_1_method_18_code 4 = .ok (.ifCond .ne 6, 3) := by decide +kernel
theorem d_RR_sign_7 : decode prog_1_method_18_code 7 = .ok (.ldc 50, 2) := by decide +kernel
theorem d_RR_sign_9 : decode prog_1_method_18_code 9 = .ok (.ireturn, 1) := by decide +kernel
theorem d_RR_sign_10 : decode prog_1_method_18_code 10 = .ok (.aload_n 0, 1) := by decide +kernel
theorem d_RR_sign_11 : decode prog_1_method_18_code 11 = .ok (.getfield 17, 3) := by decide +kernel
theorem d_RR_sign_14 : decode prog_1_method_18_code 14 = .ok (.iload_n 1, 1) := by decide +kernel
theorem d_RR_sign_15 : decode prog_1_method_18_code 15 = .ok (.aaload, 1) := by decide +kernel
theorem d_RR_sign_16 : decode prog_1_method_18_code 16 = .ok (.astore 4, 2) := by decide +kernel
theorem d_RR_sign_18 : decode prog_1_method_18_code 18 = .ok (.aload 4, 2) := by decide +kernel
theorem d_RR_sign_20 : decode prog_1_method_18_code 20 = .ok (.instanceof 171, 3) := by decide +kernel
theorem d_RR_sign_23 : decode prog_1_method_18_code 23 = .ok (.ifCond .eq 12, 3) := by decide +kernel
theorem d_RR_sign_26 : decode prog_1_method_18_code 26 = .ok (.aload 4, 2) := by decide +kernel
theorem d_RR_sign_28 : decode prog_1_method_18_code 28 = .ok (.checkcast 171, 3) := by decide +kernel
theorem d_RR_sign_31 : decode prog_1_method_18_code 31 = .ok (.astore_n 3, 1) := by decide +kernel
theorem d_RR_sign_32 : decode prog_1_method_18_code 32 = .ok (.goto 9, 3) := by decide +kernel
theorem d_RR_sign_35 : decode prog_1_method_18_code 35 = .ok (.aload_n 0, 1) := by decide +kernel
theorem d_RR_sign_36 : decode prog_1_method_18_code 36 = .ok (.iload_n 1, 1) := by decide +kernel
theorem d_RR_sign_37 : decode prog_1_method_18_code 37 = .ok (.invokevirtual 93, 3) := by decide +kernel
theorem d_RR_sign_40 : decode prog_1_method_18_code 40 = .ok (.ireturn, 1) := by decide +kernel
theorem d_RR_sign_41 : decode prog_1_method_18_code 41 = .ok (.aload_n 3, 1) := by decide +kernel
theorem d_RR_sign_42 : decode prog_1_method_18_code 42 = .ok (.getfield 173, 3) := by decide +kernel
theorem d_RR_sign_45 : decode prog_1_method_18_code 45 = .ok (.iload_n 2, 1) := by decide +kernel
theorem d_RR_sign_46 : decode prog_1_method_18_code 46 = .ok (.invokestatic 174, 3) := by decide +kernel
theorem d_RR_sign_49 : decode prog_1_method_18_code 49 = .ok (.ifCond .ne 6, 3) := by decide +kernel
theorem d_RR_sign_52 : decode prog_1_method_18_code 52 = .ok (.ldc 50, 2) := by decide +kernel
theorem d_RR_sign_54 : decode prog_1_method_18_code 54 = .ok (.ireturn, 1) := by decide +kernel
theorem d_RR_sign_55 : decode prog_1_method_18_code 55 = .ok (.aload_n 0, 1) := by decide +kernel
theorem d_RR_sign_56 : decode prog_1_method_18_code 56 = .ok (.aload_n 3, 1) := by decide +kernel
theorem d_RR_sign_57 : decode prog_1_method_18_code 57 = .ok (.getfield 177, 3) := by decide +kernel
theorem d_RR_sign_60 : decode prog_1_method_18_code 60 = .ok (.iload_n 2, 1) := by decide +kernel
theorem d_RR_sign_61 : decode prog_1_method_18_code 61 = .ok (.invokestatic 178, 3) := by decide +kernel
theorem d_RR_sign_64 : decode prog_1_method_18_code 64 = .ok (.ifCond .eq 7, 3) := by decide +kernel
theorem d_RR_sign_67 : decode prog_1_method_18_code 67 = .ok (.iconst 1, 1) := by decide +kernel
theorem d_RR_sign_68 : decode prog_1_method_18_code 68 = .ok (.goto 4, 3) := by decide +kernel
theorem d_RR_sign_71 : decode prog_1_method_18_code 71 = .ok (.iconst (-1), 1) := by decide +kernel
theorem d_RR_sign_72 : decode prog_1_method_18_code 72 = .ok (.invokevirtual 58, 3) := by decide +kernel
theorem d_RR_sign_75 : decode prog_1_method_18_code 75 = .ok (.ireturn, 1) := by decide +kernel
theorem d_RR_isCrossing_0 : decode prog_1_method_38_code 0 = .ok (.iload_n 1, 1) := by decide +kernel
theorem d_RR_isCrossing_1 : decode prog_1_method_38_code 1 = .ok (.ifCond .lt 14, 3) := by decide +kernel
theorem d_RR_isCrossing_4 : decode prog_1_method_38_code 4 = .ok (.iload_n 1, 1) := by decide +kernel
theorem d_RR_isCrossing_5 : decode prog_1_method_38_code 5 = .ok (.iconst 2, 1) := by decide +kernel
theorem d_RR_isCrossing_6 : decode prog_1_method_38_code 6 = .ok (.iload_n 0, 1) := by decide +kernel
theorem d_RR_isCrossing_7 : decode prog_1_method_38_code 7 = .ok (.imul, 1) := by decide +kernel
theorem d_RR_isCrossing_8 : decode prog_1_method_38_code 8 = .ok (.if_icmp .ge 7, 3) := by decide +kernel
theorem d_RR_isCrossing_11 : decode prog_1_method_38_code 11 = .ok (.iconst 1, 1) := by decide +kernel
theorem d_RR_isCrossing_12 : decode prog_1_method_38_code 12 = .ok (.goto 4, 3) := by decide +kernel
theorem d_RR_isCrossing_15 : decode prog_1_method_38_code 15 = .ok (.iconst 0, 1) := by decide +kernel
theorem d_RR_isCrossing_16 : decode prog_1_method_38_code 16 = .ok (.ireturn, 1) := by decide +kernel
theorem d_RR_joined_0 : decode prog_1_method_19_code 0 = .ok (.iload_n 1, 1) := by decide +kernel
theorem d_RR_joined_1 : decode prog_1_method_19_code 1 = .ok (.invokestatic 80, 3) := by decide +kernel
theorem d_RR_joined_4 : decode prog_1_method_19_code 4 = .ok (.ifCond .ne 6, 3) := by decide +kernel
theorem d_RR_joined_7 : decode prog_1_method_19_code 7 = .ok (.ldc 50, 2) := by decide +kernel
theorem d_RR_joined_9 : decode prog_1_method_19_code 9 = .ok (.ireturn, 1) := by decide +kernel
theorem d_RR_joined_10 : decode prog_1_method_19_code 10 = .ok (.aload_n 0, 1) := by decide +kernel
theorem d_RR_joined_11 : decode prog_1_method_19_code 11 = .ok (.getfield 17, 3) := by decide +kernel
theorem d_RR_joined_14 : decode prog_1_method_19_code 14 = .ok (.iload_n 1, 1) := by decide +kernel
theorem d_RR_joined_15 : decode prog_1_method_19_code 15 = .ok (.aaload, 1) := by decide +kernel
theorem d_RR_joined_16 : decode prog_1_method_19_code 16 = .ok (.astore 4, 2) := by decide +kernel
theorem d_RR_joined_18 : decode prog_1_method_19_code 18 = .ok (.aload 4, 2) := by decide +kernel
theorem d_RR_joined_20 : decode prog_1_method_19_code 20 = .ok (.instanceof 91, 3) := by decide +kernel
theorem d_RR_joined_23 : decode prog_1_method_19_code 23 = .ok (.ifCond .eq 12, 3) := by decide +kernel
theorem d_RR_joined_26 : decode prog_1_method_19_code 26 = .ok (.aload 4, 2) := by decide +kernel
theorem d_RR_joined_28 : decode prog_1_method_19_code 28 = .ok (.checkcast 91, 3) := by decide +kernel
theorem d_RR_joined_31 : decode prog_1_method_19_code 31 = .ok (.astore_n 3, 1) := by decide +kernel
theorem d_RR_joined_32 : decode prog_1_method_19_code 32 = .ok (.goto 9, 3) := by decide +kernel
theorem d_RR_joined_35 : decode prog_1_method_19_code 35 = .ok (.aload_n 0, 1) := by decide +kernel
theorem d_RR_joined_36 : decode prog_1_method_19_code 36 = .ok (.iload_n 1, 1) := by decide +kernel
theorem d_RR_joined_37 : decode prog_1_method_19_code 37 = .ok (.invokevirtual 93, 3) := by decide +kernel
theorem d_RR_joined_40 : decode prog_1_method_19_code 40 = .ok (.ireturn, 1) := by decide +kernel
theorem d_RR_joined_41 : decode prog_1_method_19_code 41 = .ok (.aload_n 3, 1) := by decide +kernel
theorem d_RR_joined_42 : decode prog_1_method_19_code 42 = .ok (.getfield 96, 3) := by decide +kernel
theorem d_RR_joined_45 : decode prog_1_method_19_code 45 = .ok (.iload_n 2, 1) := by decide +kernel
theorem d_RR_joined_46 : decode prog_1_method_19_code 46 = .ok (.invokestatic 174, 3) := by decide +kernel
theorem d_RR_joined_49 : decode prog_1_method_19_code 49 = .ok (.ifCond .eq 16, 3) := by decide +kernel
theorem d_RR_joined_52 : decode prog_1_method_19_code 52 = .ok (.aload_n 0, 1) := by decide +kernel
theorem d_RR_joined_53 : decode prog_1_method_19_code 53 = .ok (.aload_n 3, 1) := by decide +kernel
theorem d_RR_joined_54 : decode prog_1_method_19_code 54 = .ok (.getfield 130, 3) := by decide +kernel
theorem d_RR_joined_57 : decode prog_1_method_19_code 57 = .ok (.iload_n 2, 1) := by decide +kernel
theorem d_RR_joined_58 : decode prog_1_method_19_code 58 = .ok (.iaload, 1) := by decide +kernel
theorem d_RR_joined_59 : decode prog_1_method_19_code 59 = .ok (.invokevirtual 58, 3) := by decide +kernel
theorem d_RR_joined_62 : decode prog_1_method_19_code 62 = .ok (.goto 5, 3) := by decide +kernel
theorem d_RR_joined_65 : decode prog_1_method_19_code 65 = .ok (.ldc 50, 2) := by decide +kernel
theorem d_RR_joined_67 : decode prog_1_method_19_code 67 = .ok (.ireturn, 1) := by decide +kernel
theorem d_RR_rank_0 : decode prog_1_method_20_code 0 = .ok (.iload_n 1, 1) := by decide +kernel
theorem d_RR_rank_1 : decode prog_1_method_20_code 1 = .ok (.invokestatic 80, 3) := by decide +kernel
theorem d_RR_rank_4 : decode prog_1_method_20_code 4 = .ok (.ifCond .ne 6, 3) := by decide +kernel
theorem d_RR_rank_7 : decode prog_1_method_20_code 7 = .ok (.ldc 50, 2) := by decide +kernel
theorem d_RR_rank_9 : decode prog_1_method_20_code 9 = .ok (.ireturn, 1) := by decide +kernel
theorem d_RR_rank_10 : decode prog_1_method_20_code 10 = .ok (.aload_n 0, 1) := by decide +kernel
theorem d_RR_rank_11 : decode prog_1_method_20_code 11 = .ok (.getfield 17, 3) := by decide +kernel
theorem d_RR_rank_14 : decode prog_1_method_20_code 14 = .ok (.iload_n 1, 1) := by decide +kernel
theorem d_RR_rank_15 : decode prog_1_method_20_code 15 = .ok (.aaload, 1) := by decide +kernel
theorem d_RR_rank_16 : decode prog_1_method_20_code 16 = .ok (.astore_n 3, 1) := by decide +kernel
theorem d_RR_rank_17 : decode prog_1_method_20_code 17 = .ok (.aload_n 3, 1) := by decide +kernel
theorem d_RR_rank_18 : decode prog_1_method_20_code 18 = .ok (.instanceof 91, 3) := by decide +kernel
theorem d_RR_rank_21 : decode prog_1_method_20_code 21 = .ok (.ifCond .eq 11, 3) := by decide +kernel
theorem d_RR_rank_24 : decode prog_1_method_20_code 24 = .ok (.aload_n 3, 1) := by decide +kernel
theorem d_RR_rank_25 : decode prog_1_method_20_code 25 = .ok (.checkcast 91, 3) := by decide +kernel
theorem d_RR_rank_28 : decode prog_1_method_20_code 28 = .ok (.astore_n 2, 1) := by decide +kernel
theorem d_RR_rank_29 : decode prog_1_method_20_code 29 = .ok (.goto 9, 3) := by decide +kernel
theorem d_RR_rank_32 : decode prog_1_method_20_code 32 = .ok (.aload_n 0, 1) := by decide +kernel
theorem d_RR_rank_33 : decode prog_1_method_20_code 33 = .ok (.iload_n 1, 1) := by decide +kernel
theorem d_RR_rank_34 : decode prog_1_method_20_code 34 = .ok (.invokevirtual 93, 3) := by decide +kernel
theorem d_RR_rank_37 : decode prog_1_method_20_code 37 = .ok (.ireturn, 1) := by decide +kernel
theorem d_RR_rank_38 : decode prog_1_method_20_code 38 = .ok (.aload_n 2, 1) := by decide +kernel
theorem d_RR_rank_39 : decode prog_1_method_20_code 39 = .ok (.getfield 96, 3) := by decide +kernel
theorem d_RR_rank_42 : decode prog_1_method_20_code 42 = .ok (.bipush 12, 2) := by decide +kernel
theorem d_RR_rank_44 : decode prog_1_method_20_code 44 = .ok (.if_icmp .le 8, 3) := by decide +kernel
theorem d_RR_rank_47 : decode prog_1_method_20_code 47 = .ok (.ldc 182, 2) := by decide +kernel
theorem d_RR_rank_49 : decode prog_1_method_20_code 49 = .ok (.goto 12, 3) := by decide +kernel
theorem d_RR_rank_52 : decode prog_1_method_20_code 52 = .ok (.aload_n 0, 1) := by decide +kernel
theorem d_RR_rank_53 : decode prog_1_method_20_code 53 = .ok (.aload_n 0, 1) := by decide +kernel
theorem d_RR_rank_54 : decode prog_1_method_20_code 54 = .ok (.aload_n 2, 1) := by decide +kernel
theorem d_RR_rank_55 : decode prog_1_method_20_code 55 = .ok (.invokevirtual 183, 3) := by decide +kernel
theorem d_RR_rank_58 : decode prog_1_method_20_code 58 = .ok (.invokevirtual 58, 3) := by decide +kernel
theorem d_RR_rank_61 : decode prog_1_method_20_code 61 = .ok (.ireturn, 1) := by decide +kernel
theorem d_RR_rankOf_0 : decode prog_1_method_51_code 0 = .ok (.iconst 0, 1) := by decide +kernel
theorem d_RR_rankOf_1 : decode prog_1_method_51_code 1 = .ok (.istore_n 2, 1) := by decide +kernel
theorem d_RR_rankOf_2 : decode prog_1_method_51_code 2 = .ok (.aload_n 1, 1) := by decide +kernel
theorem d_RR_rankOf_3 : decode prog_1_method_51_code 3 = .ok (.getfield 96, 3) := by decide +kernel
theorem d_RR_rankOf_6 : decode prog_1_method_51_code 6 = .ok (.istore_n 3, 1) := by decide +kernel
theorem d_RR_rankOf_7 : decode prog_1_method_51_code 7 = .ok (.aload_n 1, 1) := by decide +kernel
theorem d_RR_rankOf_8 : decode prog_1_method_51_code 8 = .ok (.getfield 96, 3) := by decide +kernel
theorem d_RR_rankOf_11 : decode prog_1_method_51_code 11 = .ok (.istore 4, 2) := by decide +kernel
theorem d_RR_rankOf_13 : decode prog_1_method_51_code 13 = .ok (.iconst 0, 1) := by decide +kernel
theorem d_RR_rankOf_14 : decode prog_1_method_51_code 14 = .ok (.istore 5, 2) := by decide +kernel
theorem d_RR_rankOf_16 : decode prog_1_method_51_code 16 = .ok (.iload 5, 2) := by decide +kernel
theorem d_RR_rankOf_18 : decode prog_1_method_51_code 18 = .ok (.iconst 2, 1) := by decide +kernel
theorem d_RR_rankOf_19 : decode prog_1_method_51_code 19 = .ok (.aload_n 1, 1) := by decide +kernel
theorem d_RR_rankOf_20 : decode prog_1_method_51_code 20 = .ok (.getfield 96, 3) := by decide +kernel
theorem d_RR_rankOf_23 : decode prog_1_method_51_code 23 = .ok (.imul, 1) := by decide +kernel
theorem d_RR_rankOf_24 : decode prog_1_method_51_code 24 = .ok (.if_icmp .ge 42, 3) := by decide +kernel
theorem d_RR_rankOf_27 : decode prog_1_method_51_code 27 = .ok (.aload_n 1, 1) := by decide +kernel
theorem d_RR_rankOf_28 : decode prog_1_method_51_code 28 = .ok (.getfield 126, 3) := by decide +kernel
theorem d_RR_rankOf_31 : decode prog_1_method_51_code 31 = .ok (.iload 5, 2) := by decide +kernel
theorem d_RR_rankOf_33 : decode prog_1_method_51_code 33 = .ok (.invokestatic 178, 3) := by decide +kernel
theorem d_RR_rankOf_36 : decode prog_1_method_51_code 36 = .ok (.ifCond .eq 9, 3) := by decide +kernel
theorem d_RR_rankOf_39 : decode prog_1_method_51_code 39 = .ok (.iinc 3 (-1), 3) := by decide +kernel
theorem d_RR_rankOf_42 : decode prog_1_method_51_code 42 = .ok (.goto 18, 3) := by decide +kernel
theorem d_RR_rankOf_45 : decode prog_1_method_51_code 45 = .ok (.iload_n 2, 1) := by decide +kernel
theorem d_RR_rankOf_46 : decode prog_1_method_51_code 46 = .ok (.aload_n 0, 1) := by decide +kernel
theorem d_RR_rankOf_47 : decode prog_1_method_51_code 47 = .ok (.iload_n 3, 1) := by decide +kernel
theorem d_RR_rankOf_48 : decode prog_1_method_51_code 48 = .ok (.iconst 1, 1) := by decide +kernel
theorem d_RR_rankOf_49 : decode prog_1_method_51_code 49 = .ok (.isub, 1) := by decide +kernel
theorem d_RR_rankOf_50 : decode prog_1_method_51_code 50 = .ok (.iload 4, 2) := by decide +kernel
theorem d_RR_rankOf_52 : decode prog_1_method_51_code 52 = .ok (.invokevirtual 113, 3) := by decide +kernel
theorem d_RR_rankOf_55 : decode prog_1_method_51_code 55 = .ok (.iadd, 1) := by decide +kernel
theorem d_RR_rankOf_56 : decode prog_1_method_51_code 56 = .ok (.istore_n 2, 1) := by decide +kernel
theorem d_RR_rankOf_57 : decode prog_1_method_51_code 57 = .ok (.iinc 4 (-1), 3) := by decide +kernel
theorem d_RR_rankOf_60 : decode prog_1_method_51_code 60 = .ok (.iinc 5 1, 3) := by decide +kernel
theorem d_RR_rankOf_63 : decode prog_1_method_51_code 63 = .ok (.goto (-47), 3) := by decide +kernel
theorem d_RR_rankOf_66 : decode prog_1_method_51_code 66 = .ok (.iload_n 2, 1) := by decide +kernel
theorem d_RR_rankOf_67 : decode prog_1_method_51_code 67 = .ok (.ireturn, 1) := by decide +kernel
theorem d_RR_loops_0 : decode prog_1_method_21_code 0 = .ok (.iload_n 1, 1) := by decide +kernel
theorem d_RR_loops_1 : decode prog_1_method_21_code 1 = .ok (.invokestatic 80, 3) := by decide +kernel
theorem d_RR_loops_4 : decode prog_1_method_21_code 4 = .ok (.ifCond .ne 6, 3) := by decide +kernel
theorem d_RR_loops_7 : decode prog_1_method_21_code 7 = .ok (.ldc 50, 2) := by decide +kernel
theorem d_RR_loops_9 : decode prog_1_method_21_code 9 = .ok (.ireturn, 1) := by decide +kernel
theorem d_RR_loops_10 : decode prog_1_method_21_code 10 = .ok (.aload_n 0, 1) := by decide +kernel
theorem d_RR_loops_11 : decode prog_1_method_21_code 11 = .ok (.getfield 17, 3) := by decide +kernel
theorem d_RR_loops_14 : decode prog_1_method_21_code 14 = .ok (.iload_n 1, 1) := by decide +kernel
theorem d_RR_loops_15 : decode prog_1_method_21_code 15 = .ok (.aaload, 1) := by decide +kernel
theorem d_RR_loops_16 : decode prog_1_method_21_code 16 = .ok (.astore 4, 2) := by decide +kernel
theorem d_RR_loops_18 : decode prog_1_method_21_code 18 = .ok (.aload 4, 2) := by decide +kernel
theorem d_RR_loops_20 : decode prog_1_method_21_code 20 = .ok (.instanceof 137, 3) := by decide +kernel
theorem d_RR_loops_23 : decode prog_1_method_21_code 23 = .ok (.ifCond .eq 12, 3) := by decide +kernel
theorem d_RR_loops_26 : decode prog_1_method_21_code 26 = .ok (.aload 4, 2) := by decide +kernel
theorem d_RR_loops_28 : decode prog_1_method_21_code 28 = .ok (.checkcast 137, 3) := by decide +kernel
theorem d_RR_loops_31 : decode prog_1_method_21_code 31 = .ok (.astore_n 3, 1) := by decide +kernel
theorem d_RR_loops_32 : decode prog_1_method_21_code 32 = .ok (.goto 9, 3) := by decide +kernel
theorem d_RR_loops_35 : decode prog_1_method_21_code 35 = .ok (.aload_n 0, 1) := by decide +kernel
theorem d_RR_loops_36 : decode prog_1_method_21_code 36 = .ok (.iload_n 1, 1) := by decide +kernel
theorem d_RR_loops_37 : decode prog_1_method_21_code 37 = .ok (.invokevirtual 93, 3) := by decide +kernel
theorem d_RR_loops_40 : decode prog_1_method_21_code 40 = .ok (.ireturn, 1) := by decide +kernel
theorem d_RR_loops_41 : decode prog_1_method_21_code 41 = .ok (.iload_n 2, 1) := by decide +kernel
theorem d_RR_loops_42 : decode prog_1_method_21_code 42 = .ok (.iconst (-1), 1) := by decide +kernel
theorem d_RR_loops_43 : decode prog_1_method_21_code 43 = .ok (.if_icmp .ne 12, 3) := by decide +kernel
theorem d_RR_loops_46 : decode prog_1_method_21_code 46 = .ok (.aload_n 0, 1) := by decide +kernel
theorem d_RR_loops_47 : decode prog_1_method_21_code 47 = .ok (.aload_n 3, 1) := by decide +kernel
theorem d_RR_loops_48 : decode prog_1_method_21_code 48 = .ok (.getfield 187, 3) := by decide +kernel
theorem d_RR_loops_51 : decode prog_1_method_21_code 51 = .ok (.invokevirtual 58, 3) := by decide +kernel
theorem d_RR_loops_54 : decode prog_1_method_21_code 54 = .ok (.ireturn, 1) := by decide +kernel
theorem d_RR_loops_55 : decode prog_1_method_21_code 55 = .ok (.aload_n 3, 1) := by decide +kernel
theorem d_RR_loops_56 : decode prog_1_method_21_code 56 = .ok (.getfield 190, 3) := by decide +kernel
theorem d_RR_loops_59 : decode prog_1_method_21_code 59 = .ok (.iload_n 2, 1) := by decide +kernel
theorem d_RR_loops_60 : decode prog_1_method_21_code 60 = .ok (.invokestatic 174, 3) := by decide +kernel
theorem d_RR_loops_63 : decode prog_1_method_21_code 63 = .ok (.ifCond .eq 16, 3) := by decide +kernel
theorem d_RR_loops_66 : decode prog_1_method_21_code 66 = .ok (.aload_n 0, 1) := by decide +kernel
theorem d_RR_loops_67 : decode prog_1_method_21_code 67 = .ok (.aload_n 3, 1) := by decide +kernel
theorem d_RR_loops_68 : decode prog_1_method_21_code 68 = .ok (.getfield 191, 3) := by decide +kernel
theorem d_RR_loops_71 : decode prog_1_method_21_code 71 = .ok (.iload_n 2, 1) := by decide +kernel
theorem d_RR_loops_72 : decode prog_1_method_21_code 72 = .ok (.iaload, 1) := by decide +kernel
theorem d_RR_loops_73 : decode prog_1_method_21_code 73 = .ok (.invokevirtual 58, 3) := by decide +kernel
theorem d_RR_loops_76 : decode prog_1_method_21_code 76 = .ok (.goto 5, 3) := by decide +kernel
theorem d_RR_loops_79 : decode prog_1_method_21_code 79 = .ok (.ldc 50, 2) := by decide +kernel
theorem d_RR_loops_81 : decode prog_1_method_21_code 81 = .ok (.ireturn, 1) := by decide +kernel
theorem d_RR_way_0 : decode prog_1_method_22_code 0 = .ok (.iload_n 1, 1) := by decide +kernel
theorem d_RR_way_1 : decode prog_1_method_22_code 1 = .ok (.invokestatic 80, 3) := by decide +kernel
theorem d_RR_way_4 : decode prog_1_method_22_code 4 = .ok (.ifCond .ne 6, 3) := by decide +kernel
theorem d_RR_way_7 : decode prog_1_method_22_code 7 = .ok (.ldc 50, 2) := by decide +kernel
theorem d_RR_way_9 : decode prog_1_method_22_code 9 = .ok (.ireturn, 1) := by decide +kernel
theorem d_RR_way_10 : decode prog_1_method_22_code 10 = .ok (.aload_n 0, 1) := by decide +kernel
theorem d_RR_way_11 : decode prog_1_method_22_code 11 = .ok (.getfield 17, 3) := by decide +kernel
theorem d_RR_way_14 : decode prog_1_method_22_code 14 = .ok (.iload_n 1, 1) := by decide +kernel
theorem d_RR_way_15 : decode prog_1_method_22_code 15 = .ok (.aaload, 1) := by decide +kernel
theorem d_RR_way_16 : decode prog_1_method_22_code 16 = .ok (.astore 5, 2) := by decide +kernel
theorem d_RR_way_18 : decode prog_1_method_22_code 18 = .ok (.aload 5, 2) := by decide +kernel
theorem d_RR_way_20 : decode prog_1_method_22_code 20 = .ok (.instanceof 137, 3) := by decide +kernel
theorem d_RR_way_23 : decode prog_1_method_22_code 23 = .ok (.ifCond .eq 13, 3) := by decide +kernel
theorem d_RR_way_26 : decode prog_1_method_22_code 26 = .ok (.aload 5, 2) := by decide +kernel
theorem d_RR_way_28 : decode prog_1_method_22_code 28 = .ok (.checkcast 137, 3) := by decide +kernel
theorem d_RR_way_31 : decode prog_1_method_22_code 31 = .ok (.astore 4, 2) := by decide +kernel
theorem d_RR_way_33 : decode prog_1_method_22_code 33 = .ok (.goto 9, 3) := by decide +kernel
theorem d_RR_way_36 : decode prog_1_method_22_code 36 = .ok (.aload_n 0, 1) := by decide +kernel
theorem d_RR_way_37 : decode prog_1_method_22_code 37 = .ok (.iload_n 1, 1) := by decide +kernel
theorem d_RR_way_38 : decode prog_1_method_22_code 38 = .ok (.invokevirtual 93, 3) := by decide +kernel
theorem d_RR_way_41 : decode prog_1_method_22_code 41 = .ok (.ireturn, 1) := by decide +kernel
theorem d_RR_way_42 : decode prog_1_method_22_code 42 = .ok (.aload 4, 2) := by decide +kernel
theorem d_RR_way_44 : decode prog_1_method_22_code 44 = .ok (.getfield 190, 3) := by decide +kernel
theorem d_RR_way_47 : decode prog_1_method_22_code 47 = .ok (.iload_n 2, 1) := by decide +kernel
theorem d_RR_way_48 : decode prog_1_method_22_code 48 = .ok (.invokestatic 174, 3) := by decide +kernel
theorem d_RR_way_51 : decode prog_1_method_22_code 51 = .ok (.ifCond .ne 6, 3) := by decide +kernel
theorem d_RR_way_54 : decode prog_1_method_22_code 54 = .ok (.ldc 50, 2) := by decide +kernel
theorem d_RR_way_56 : decode prog_1_method_22_code 56 = .ok (.ireturn, 1) := by decide +kernel
theorem d_RR_way_57 : decode prog_1_method_22_code 57 = .ok (.aload 4, 2) := by decide +kernel
theorem d_RR_way_59 : decode prog_1_method_22_code 59 = .ok (.getfield 190, 3) := by decide +kernel
theorem d_RR_way_62 : decode prog_1_method_22_code 62 = .ok (.iload_n 3, 1) := by decide +kernel
theorem d_RR_way_63 : decode prog_1_method_22_code 63 = .ok (.invokestatic 174, 3) := by decide +kernel
theorem d_RR_way_66 : decode prog_1_method_22_code 66 = .ok (.ifCond .ne 10, 3) := by decide +kernel
theorem d_RR_way_69 : decode prog_1_method_22_code 69 = .ok (.aload_n 0, 1) := by decide +kernel
theorem d_RR_way_70 : decode prog_1_method_22_code 70 = .ok (.ldc 117, 2) := by decide +kernel
theorem d_RR_way_72 : decode prog_1_method_22_code 72 = .ok (.invokevirtual 58, 3) := by decide +kernel
theorem d_RR_way_75 : decode prog_1_method_22_code 75 = .ok (.ireturn, 1) := by decide +kernel
theorem d_RR_way_76 : decode prog_1_method_22_code 76 = .ok (.iload_n 2, 1) := by decide +kernel
theorem d_RR_way_77 : decode prog_1_method_22_code 77 = .ok (.istore 5, 2) := by decide +kernel
theorem d_RR_way_79 : decode prog_1_method_22_code 79 = .ok (.iconst 0, 1) := by decide +kernel
theorem d_RR_way_80 : decode prog_1_method_22_code 80 = .ok (.istore 6, 2) := by decide +kernel
theorem d_RR_way_82 : decode prog_1_method_22_code 82 = .ok (.iload 6, 2) := by decide +kernel
theorem d_RR_way_84 : decode prog_1_method_22_code 84 = .ok (.iload_n 3, 1) := by decide +kernel
theorem d_RR_way_85 : decode prog_1_method_22_code 85 = .ok (.if_icmp .ge 33, 3) := by decide +kernel
theorem d_RR_way_88 : decode prog_1_method_22_code 88 = .ok (.aload 4, 2) := by decide +kernel
theorem d_RR_way_90 : decode prog_1_method_22_code 90 = .ok (.iload 5, 2) := by decide +kernel
theorem d_RR_way_92 : decode prog_1_method_22_code 92 = .ok (.iload 6, 2) := by decide +kernel
theorem d_RR_way_94 : decode prog_1_method_22_code 94 = .ok (.invokevirtual 194, 3) := by decide +kernel
theorem d_RR_way_97 : decode prog_1_method_22_code 97 = .ok (.istore 5, 2) := by decide +kernel
theorem d_RR_way_99 : decode prog_1_method_22_code 99 = .ok (.iload 5, 2) := by decide +kernel
theorem d_RR_way_101 : decode prog_1_method_22_code 101 = .ok (.iload_n 2, 1) := by decide +kernel
theorem d_RR_way_102 : decode prog_1_method_22_code 102 = .ok (.if_icmp .ne 10, 3) := by decide +kernel
theorem d_RR_way_105 : decode prog_1_method_22_code 105 = .ok (.aload_n 0, 1) := by decide +kernel
theorem d_RR_way_106 : decode prog_1_method_22_code 106 = .ok (.ldc 117, 2) := by decide +kernel
theorem d_RR_way_108 : decode prog_1_method_22_code 108 = .ok (.invokevirtual 58, 3) := by decide +kernel
theorem d_RR_way_111 : decode prog_1_method_22_code 111 = .ok (.ireturn, 1) := by decide +kernel
theorem d_RR_way_112 : decode prog_1_method_22_code 112 = .ok (.iinc 6 1, 3) := by decide +kernel
theorem d_RR_way_115 : decode prog_1_method_22_code 115 = .ok (.goto (-33), 3) := by decide +kernel
theorem d_RR_way_118 : decode prog_1_method_22_code 118 = .ok (.aload_n 0, 1) := by decide +kernel
theorem d_RR_way_119 : decode prog_1_method_22_code 119 = .ok (.iload 5, 2) := by decide +kernel
theorem d_RR_way_121 : decode prog_1_method_22_code 121 = .ok (.invokevirtual 58, 3) := by decide +kernel
theorem d_RR_way_124 : decode prog_1_method_22_code 124 = .ok (.ireturn, 1) := by decide +kernel
theorem d_La_goneOn_0 : decode prog_4_method_2_code 0 = .ok (.iload_n 2, 1) := by decide +kernel
theorem d_La_goneOn_1 : decode prog_4_method_2_code 1 = .ok (.iconst 1, 1) := by decide +kernel
theorem d_La_goneOn_2 : decode prog_4_method_2_code 2 = .ok (.iand, 1) := by decide +kernel
theorem d_La_goneOn_3 : decode prog_4_method_2_code 3 = .ok (.ifCond .ne 15, 3) := by decide +kernel
theorem d_La_goneOn_6 : decode prog_4_method_2_code 6 = .ok (.aload_n 0, 1) := by decide +kernel
theorem d_La_goneOn_7 : decode prog_4_method_2_code 7 = .ok (.getfield 13, 3) := by decide +kernel
theorem d_La_goneOn_10 : decode prog_4_method_2_code 10 = .ok (.getfield 29, 3) := by decide +kernel
theorem d_La_goneOn_13 : decode prog_4_method_2_code 13 = .ok (.iload_n 1, 1) := by decide +kernel
theorem d_La_goneOn_14 : decode prog_4_method_2_code 14 = .ok (.iaload, 1) := by decide +kernel
theorem d_La_goneOn_15 : decode prog_4_method_2_code 15 = .ok (.goto 12, 3) := by decide +kernel
theorem d_La_goneOn_18 : decode prog_4_method_2_code 18 = .ok (.aload_n 0, 1) := by decide +kernel
theorem d_La_goneOn_19 : decode prog_4_method_2_code 19 = .ok (.getfield 19, 3) := by decide +kernel
theorem d_La_goneOn_22 : decode prog_4_method_2_code 22 = .ok (.getfield 29, 3) := by decide +kernel
theorem d_La_goneOn_25 : decode prog_4_method_2_code 25 = .ok (.iload_n 1, 1) := by decide +kernel
theorem d_La_goneOn_26 : decode prog_4_method_2_code 26 = .ok (.iaload, 1) := by decide +kernel
theorem d_La_goneOn_27 : decode prog_4_method_2_code 27 = .ok (.ireturn, 1) := by decide +kernel
theorem d_RR_lands_0 : decode prog_1_method_23_code 0 = .ok (.iload_n 1, 1) := by decide +kernel
theorem d_RR_lands_1 : decode prog_1_method_23_code 1 = .ok (.iconst 1, 1) := by decide +kernel
theorem d_RR_lands_2 : decode prog_1_method_23_code 2 = .ok (.if_icmp .lt 13, 3) := by decide +kernel
theorem d_RR_lands_5 : decode prog_1_method_23_code 5 = .ok (.iload_n 1, 1) := by decide +kernel
theorem d_RR_lands_6 : decode prog_1_method_23_code 6 = .ok (.bipush 7, 2) := by decide +kernel
theorem d_RR_lands_8 : decode prog_1_method_23_code 8 = .ok (.if_icmp .gt 7, 3) := by decide +kernel
theorem d_RR_lands_11 : decode prog_1_method_23_code 11 = .ok (.iload_n 2, 1) := by decide +kernel
theorem d_RR_lands_12 : decode prog_1_method_23_code 12 = .ok (.ifCond .ge 6, 3) := by decide +kernel
theorem d_RR_lands_15 : decode prog_1_method_23_code 15 = .ok (.ldc 50, 2) := by decide +kernel
theorem d_RR_lands_17 : decode prog_1_method_23_code 17 = .ok (.ireturn, 1) := by decide +kernel
theorem d_RR_lands_18 : decode prog_1_method_23_code 18 = .ok (.iload_n 1, 1) := by decide +kernel
theorem d_RR_lands_19 : decode prog_1_method_23_code 19 = .ok (.iload_n 2, 1) := by decide +kernel
theorem d_RR_lands_20 : decode prog_1_method_23_code 20 = .ok (.invokestatic 197, 3) := by decide +kernel
theorem d_RR_lands_23 : decode prog_1_method_23_code 23 = .ok (.ireturn, 1) := by decide +kernel
theorem d_RR_landsOf_0 : decode prog_1_method_54_code 0 = .ok (.iload_n 1, 1) := by decide +kernel
theorem d_RR_landsOf_1 : decode prog_1_method_54_code 1 = .ok (.iconst 1, 1) := by decide +kernel
theorem d_RR_landsOf_2 : decode prog_1_method_54_code 2 = .ok (.if_icmp .lt 8, 3) := by decide +kernel
theorem d_RR_landsOf_5 : decode prog_1_method_54_code 5 = .ok (.iload_n 1, 1) := by decide +kernel
theorem d_RR_landsOf_6 : decode prog_1_method_54_code 6 = .ok (.iload_n 0, 1) := by decide +kernel
theorem d_RR_landsOf_7 : decode prog_1_method_54_code 7 = .ok (.if_icmp .le 7, 3) := by decide +kernel
theorem d_RR_landsOf_10 : decode prog_1_method_54_code 10 = .ok (.iconst 0, 1) := by decide +kernel
theorem d_RR_landsOf_11 : decode prog_1_method_54_code 11 = .ok (.goto 17, 3) := by decide +kernel
theorem d_RR_landsOf_14 : decode prog_1_method_54_code 14 = .ok (.getstatic 274, 3) := by decide +kernel
theorem d_RR_landsOf_17 : decode prog_1_method_54_code 17 = .ok (.iload_n 0, 1) := by decide +kernel
theorem d_RR_landsOf_18 : decode prog_1_method_54_code 18 = .ok (.iconst 1, 1) := by decide +kernel
theorem d_RR_landsOf_19 : decode prog_1_method_54_code 19 = .ok (.isub, 1) := by decide +kernel
theorem d_RR_landsOf_20 : decode prog_1_method_54_code 20 = .ok (.bipush 7, 2) := by decide +kernel
theorem d_RR_landsOf_22 : decode prog_1_method_54_code 22 = .ok (.imul, 1) := by decide +kernel
theorem d_RR_landsOf_23 : decode prog_1_method_54_code 23 = .ok (.iload_n 1, 1) := by decide +kernel
theorem d_RR_landsOf_24 : decode prog_1_method_54_code 24 = .ok (.iadd, 1) := by decide +kernel
theorem d_RR_landsOf_25 : decode prog_1_method_54_code 25 = .ok (.iconst 1, 1) := by decide +kernel
theorem d_RR_landsOf_26 : decode prog_1_method_54_code 26 = .ok (.isub, 1) := by decide +kernel
theorem d_RR_landsOf_27 : decode prog_1_method_54_code 27 = .ok (.iaload, 1) := by decide +kernel
theorem d_RR_landsOf_28 : decode prog_1_method_54_code 28 = .ok (.ireturn, 1) := by decide +kernel
theorem d_RR_unlike_0 : decode prog_1_method_24_code 0 = .ok (.iload_n 1, 1) := by decide +kernel
theorem d_RR_unlike_1 : decode prog_1_method_24_code 1 = .ok (.iconst 1, 1) := by decide +kernel
theorem d_RR_unlike_2 : decode prog_1_method_24_code 2 = .ok (.if_icmp .lt 8, 3) := by decide +kernel
theorem d_RR_unlike_5 : decode prog_1_method_24_code 5 = .ok (.iload_n 1, 1) := by decide +kernel
theorem d_RR_unlike_6 : decode prog_1_method_24_code 6 = .ok (.iconst 5, 1) := by decide +kernel
theorem d_RR_unlike_7 : decode prog_1_method_24_code 7 = .ok (.if_icmp .le 8, 3) := by decide +kernel
theorem d_RR_unlike_10 : decode prog_1_method_24_code 10 = .ok (.ldc 50, 2) := by decide +kernel
theorem d_RR_unlike_12 : decode prog_1_method_24_code 12 = .ok (.goto 10, 3) := by decide +kernel
theorem d_RR_unlike_15 : decode prog_1_method_24_code 15 = .ok (.getstatic 200, 3) := by decide +kernel
theorem d_RR_unlike_18 : decode prog_1_method_24_code 18 = .ok (.iload_n 1, 1) := by decide +kernel
theorem d_RR_unlike_19 : decode prog_1_method_24_code 19 = .ok (.iconst 1, 1) := by decide +kernel
theorem d_RR_unlike_20 : decode prog_1_method_24_code 20 = .ok (.isub, 1) := by decide +kernel
theorem d_RR_unlike_21 : decode prog_1_method_24_code 21 = .ok (.iaload, 1) := by decide +kernel
theorem d_RR_unlike_22 : decode prog_1_method_24_code 22 = .ok (.ireturn, 1) := by decide +kernel
theorem d_RR_sum_0 : decode prog_1_method_25_code 0 = .ok (.iload_n 1, 1) := by decide +kernel
theorem d_RR_sum_1 : decode prog_1_method_25_code 1 = .ok (.iconst 1, 1) := by decide +kernel
theorem d_RR_sum_2 : decode prog_1_method_25_code 2 = .ok (.if_icmp .lt 21, 3) := by decide +kernel
theorem d_RR_sum_5 : decode prog_1_method_25_code 5 = .ok (.iload_n 1, 1) := by decide +kernel
theorem d_RR_sum_6 : decode prog_1_method_25_code 6 = .ok (.bipush 7, 2) := by decide +kernel
theorem d_RR_sum_8 : decode prog_1_method_25_code 8 = .ok (.if_icmp .gt 15, 3) := by decide +kernel
theorem d_RR_sum_11 : decode prog_1_method_25_code 11 = .ok (.iload_n 2, 1) := by decide +kernel
theorem d_RR_sum_12 : decode prog_1_method_25_code 12 = .ok (.bipush (-9), 2) := by decide +kernel
theorem d_RR_sum_14 : decode prog_1_method_25_code 14 = .ok (.if_icmp .lt 9, 3) := by decide +kernel
theorem d_RR_sum_17 : decode prog_1_method_25_code 17 = .ok (.iload_n 2, 1) := by decide +kernel
theorem d_RR_sum_18 : decode prog_1_method_25_code 18 = .ok (.bipush 9, 2) := by decide +kernel
theorem d_RR_sum_20 : decode prog_1_method_25_code 20 = .ok (.if_icmp .le 7, 3) := by decide +kernel
theorem d_RR_sum_23 : decode prog_1_method_25_code 23 = .ok (.ldc2_w 203, 3) := by decide +kernel
theorem d_RR_sum_26 : decode prog_1_method_25_code 26 = .ok (.lreturn, 1) := by decide +kernel
theorem d_RR_sum_27 : decode prog_1_method_25_code 27 = .ok (.lconst 0, 1) := by decide +kernel
theorem d_RR_sum_28 : decode prog_1_method_25_code 28 = .ok (.lstore_n 3, 1) := by decide +kernel
theorem d_RR_sum_29 : decode prog_1_method_25_code 29 = .ok (.lconst 1, 1) := by decide +kernel
theorem d_RR_sum_30 : decode prog_1_method_25_code 30 = .ok (.lstore 5, 2) := by decide +kernel
theorem d_RR_sum_32 : decode prog_1_method_25_code 32 = .ok (.iconst 1, 1) := by decide +kernel
theorem d_RR_sum_33 : decode prog_1_method_25_code 33 = .ok (.istore 7, 2) := by decide +kernel
theorem d_RR_sum_35 : decode prog_1_method_25_code 35 = .ok (.iload 7, 2) := by decide +kernel
theorem d_RR_sum_37 : decode prog_1_method_25_code 37 = .ok (.iload_n 1, 1) := by decide +kernel
theorem d_RR_sum_38 : decode prog_1_method_25_code 38 = .ok (.if_icmp .gt 29, 3) := by decide +kernel
theorem d_RR_sum_41 : decode prog_1_method_25_code 41 = .ok (.lload 5, 2) := by decide +kernel
theorem d_RR_sum_43 : decode prog_1_method_25_code 43 = .ok (.iload_n 2, 1) := by decide +kernel
theorem d_RR_sum_44 : decode prog_1_method_25_code 44 = .ok (.i2l, 1) := by decide +kernel
theorem d_RR_sum_45 : decode prog_1_method_25_code 45 = .ok (.lmul, 1) := by decide +kernel
theorem d_RR_sum_46 : decode prog_1_method_25_code 46 = .ok (.lstore 5, 2) := by decide +kernel
theorem d_RR_sum_48 : decode prog_1_method_25_code 48 = .ok (.lload_n 3, 1) := by decide +kernel
theorem d_RR_sum_49 : decode prog_1_method_25_code 49 = .ok (.lload 5, 2) := by decide +kernel
theorem d_RR_sum_51 : decode prog_1_method_25_code 51 = .ok (.iload_n 1, 1) := by decide +kernel
theorem d_RR_sum_52 : decode prog_1_method_25_code 52 = .ok (.iload 7, 2) := by decide +kernel
theorem d_RR_sum_54 : decode prog_1_method_25_code 54 = .ok (.invokestatic 197, 3) := by decide +kernel
theorem d_RR_sum_57 : decode prog_1_method_25_code 57 = .ok (.i2l, 1) := by decide +kernel
theorem d_RR_sum_58 : decode prog_1_method_25_code 58 = .ok (.lmul, 1) := by decide +kernel
theorem d_RR_sum_59 : decode prog_1_method_25_code 59 = .ok (.ladd, 1) := by decide +kernel
theorem d_RR_sum_60 : decode prog_1_method_25_code 60 = .ok (.lstore_n 3, 1) := by decide +kernel
theorem d_RR_sum_61 : decode prog_1_method_25_code 61 = .ok (.iinc 7 1, 3) := by decide +kernel
theorem d_RR_sum_64 : decode prog_1_method_25_code 64 = .ok (.goto (-29), 3) := by decide +kernel
theorem d_RR_sum_67 : decode prog_1_method_25_code 67 = .ok (.lload_n 3, 1) := by decide +kernel
theorem d_RR_sum_68 : decode prog_1_method_25_code 68 = .ok (.lreturn, 1) := by decide +kernel
theorem d_RR_stamp_0 : decode prog_1_method_26_code 0 = .ok (.iload_n 1, 1) := by decide +kernel
theorem d_RR_stamp_1 : decode prog_1_method_26_code 1 = .ok (.invokestatic 80, 3) := by decide +kernel
theorem d_RR_stamp_4 : decode prog_1_method_26_code 4 = .ok (.ifCond .ne 6, 3) := by decide +kernel
theorem d_RR_stamp_7 : decode prog_1_method_26_code 7 = .ok (.ldc 50, 2) := by decide +kernel
theorem d_RR_stamp_9 : decode prog_1_method_26_code 9 = .ok (.ireturn, 1) := by decide +kernel
theorem d_RR_stamp_10 : decode prog_1_method_26_code 10 = .ok (.aload_n 0, 1) := by decide +kernel
theorem d_RR_stamp_11 : decode prog_1_method_26_code 11 = .ok (.getfield 17, 3) := by decide +kernel
theorem d_RR_stamp_14 : decode prog_1_method_26_code 14 = .ok (.iload_n 1, 1) := by decide +kernel
theorem d_RR_stamp_15 : decode prog_1_method_26_code 15 = .ok (.aaload, 1) := by decide +kernel
theorem d_RR_stamp_16 : decode prog_1_method_26_code 16 = .ok (.astore 4, 2) := by decide +kernel
theorem d_RR_stamp_18 : decode prog_1_method_26_code 18 = .ok (.aload 4, 2) := by decide +kernel
theorem d_RR_stamp_20 : decode prog_1_method_26_code 20 = .ok (.instanceof 205, 3) := by decide +kernel
theorem d_RR_stamp_23 : decode prog_1_method_26_code 23 = .ok (.ifCond .eq 12, 3) := by decide +kernel
theorem d_RR_stamp_26 : decode prog_1_method_26_code 26 = .ok (.aload 4, 2) := by decide +kernel
theorem d_RR_stamp_28 : decode prog_1_method_26_code 28 = .ok (.checkcast 205, 3) := by decide +kernel
theorem d_RR_stamp_31 : decode prog_1_method_26_code 31 = .ok (.astore_n 3, 1) := by decide +kernel
theorem d_RR_stamp_32 : decode prog_1_method_26_code 32 = .ok (.goto 9, 3) := by decide +kernel
theorem d_RR_stamp_35 : decode prog_1_method_26_code 35 = .ok (.aload_n 0, 1) := by decide +kernel
theorem d_RR_stamp_36 : decode prog_1_method_26_code 36 = .ok (.iload_n 1, 1) := by decide +kernel
theorem d_RR_stamp_37 : decode prog_1_method_26_code 37 = .ok (.invokevirtual 93, 3) := by decide +kernel
theorem d_RR_stamp_40 : decode prog_1_method_26_code 40 = .ok (.ireturn, 1) := by decide +kernel
theorem d_RR_stamp_41 : decode prog_1_method_26_code 41 = .ok (.iload_n 2, 1) := by decide +kernel
theorem d_RR_stamp_42 : decode prog_1_method_26_code 42 = .ok (.ifCond .lt 11, 3) := by decide +kernel
theorem d_RR_stamp_45 : decode prog_1_method_26_code 45 = .ok (.iload_n 2, 1) := by decide +kernel
theorem d_RR_stamp_46 : decode prog_1_method_26_code 46 = .ok (.aload_n 3, 1) := by decide +kernel
theorem d_RR_stamp_47 : decode prog_1_method_26_code 47 = .ok (.getfield 207, 3) := by decide +kernel
theorem d_RR_stamp_50 : decode prog_1_method_26_code 50 = .ok (.if_icmp .lt 8, 3) := by decide +kernel
theorem d_RR_stamp_53 : decode prog_1_method_26_code 53 = .ok (.ldc 50, 2) := by decide +kernel
theorem d_RR_stamp_55 : decode prog_1_method_26_code 55 = .ok (.goto 13, 3) := by decide +kernel
theorem d_RR_stamp_58 : decode prog_1_method_26_code 58 = .ok (.aload_n 0, 1) := by decide +kernel
theorem d_RR_stamp_59 : decode prog_1_method_26_code 59 = .ok (.aload_n 3, 1) := by decide +kernel
theorem d_RR_stamp_60 : decode prog_1_method_26_code 60 = .ok (.getfield 208, 3) := by decide +kernel
theorem d_RR_stamp_63 : decode prog_1_method_26_code 63 = .ok (.iload_n 2, 1) := by decide +kernel
theorem d_RR_stamp_64 : decode prog_1_method_26_code 64 = .ok (.iaload, 1) := by decide +kernel
theorem d_RR_stamp_65 : decode prog_1_method_26_code 65 = .ok (.invokevirtual 58, 3) := by decide +kernel
theorem d_RR_stamp_68 : decode prog_1_method_26_code 68 = .ok (.ireturn, 1) := by decide +kernel
theorem d_RR_clash_0 : decode prog_1_method_27_code 0 = .ok (.iload_n 1, 1) := by decide +kernel
theorem d_RR_clash_1 : decode prog_1_method_27_code 1 = .ok (.invokestatic 80, 3) := by decide +kernel
theorem d_RR_clash_4 : decode prog_1_method_27_code 4 = .ok (.ifCond .eq 12, 3) := by decide +kernel
theorem d_RR_clash_7 : decode prog_1_method_27_code 7 = .ok (.iload_n 2, 1) := by decide +kernel
theorem d_RR_clash_8 : decode prog_1_method_27_code 8 = .ok (.ifCond .lt 8, 3) := by decide +kernel
theorem d_RR_clash_11 : decode prog_1_method_27_code 11 = .ok (.iload_n 2, 1) := by decide +kernel
theorem d_RR_clash_12 : decode prog_1_method_27_code 12 = .ok (.iconst 1, 1) := by decide +kernel
theorem d_RR_clash_13 : decode prog_1_method_27_code 13 = .ok (.if_icmp .le 6, 3) := by decide +kernel
theorem d_RR_clash_16 : decode prog_1_method_27_code 16 = .ok (.ldc 50, 2) := by decide +kernel
theorem d_RR_clash_18 : decode prog_1_method_27_code 18 = .ok (.ireturn, 1) := by decide +kernel
theorem d_RR_clash_19 : decode prog_1_method_27_code 19 = .ok (.aload_n 0, 1) := by decide +kernel
theorem d_RR_clash_20 : decode prog_1_method_27_code 20 = .ok (.getfield 17, 3) := by decide +kernel
theorem d_RR_clash_23 : decode prog_1_method_27_code 23 = .ok (.iload_n 1, 1) := by decide +kernel
theorem d_RR_clash_24 : decode prog_1_method_27_code 24 = .ok (.aaload, 1) := by decide +kernel
theorem d_RR_clash_25 : decode prog_1_method_27_code 25 = .ok (.astore 4, 2) := by decide +kernel
theorem d_RR_clash_27 : decode prog_1_method_27_code 27 = .ok (.aload 4, 2) := by decide +kernel
theorem d_RR_clash_29 : decode prog_1_method_27_code 29 = .ok (.instanceof 205, 3) := by decide +kernel
theorem d_RR_clash_32 : decode prog_1_method_27_code 32 = .ok (.ifCond .eq 12, 3) := by decide +kernel
theorem d_RR_clash_35 : decode prog_1_method_27_code 35 = .ok (.aload 4, 2) := by decide +kernel
theorem d_RR_clash_37 : decode prog_1_method_27_code 37 = .ok (.checkcast 205, 3) := by decide +kernel
theorem d_RR_clash_40 : decode prog_1_method_27_code 40 = .ok (.astore_n 3, 1) := by decide +kernel
theorem d_RR_clash_41 : decode prog_1_method_27_code 41 = .ok (.goto 9, 3) := by decide +kernel
theorem d_RR_clash_44 : decode prog_1_method_27_code 44 = .ok (.aload_n 0, 1) := by decide +kernel
theorem d_RR_clash_45 : decode prog_1_method_27_code 45 = .ok (.iload_n 1, 1) := by decide +kernel
theorem d_RR_clash_46 : decode prog_1_method_27_code 46 = .ok (.invokevirtual 93, 3) := by decide +kernel
theorem d_RR_clash_49 : decode prog_1_method_27_code 49 = .ok (.ireturn, 1) := by decide +kernel
theorem d_RR_clash_50 : decode prog_1_method_27_code 50 = .ok (.aload_n 0, 1) := by decide +kernel
theorem d_RR_clash_51 : decode prog_1_method_27_code 51 = .ok (.iload_n 2, 1) := by decide +kernel
theorem d_RR_clash_52 : decode prog_1_method_27_code 52 = .ok (.ifCond .ne 10, 3) := by decide +kernel
theorem d_RR_clash_55 : decode prog_1_method_27_code 55 = .ok (.aload_n 3, 1) := by decide +kernel
theorem d_RR_clash_56 : decode prog_1_method_27_code 56 = .ok (.getfield 211, 3) := by decide +kernel
theorem d_RR_clash_59 : decode prog_1_method_27_code 59 = .ok (.goto 7, 3) := by decide +kernel
theorem d_RR_clash_62 : decode prog_1_method_27_code 62 = .ok (.aload_n 3, 1) := by decide +kernel
theorem d_RR_clash_63 : decode prog_1_method_27_code 63 = .ok (.getfield 214, 3) := by decide +kernel
theorem d_RR_clash_66 : decode prog_1_method_27_code 66 = .ok (.invokevirtual 58, 3) := by decide +kernel
theorem d_RR_clash_69 : decode prog_1_method_27_code 69 = .ok (.ireturn, 1) := by decide +kernel
theorem d_RR_folds_0 : decode prog_1_method_28_code 0 = .ok (.iload_n 1, 1) := by decide +kernel
theorem d_RR_folds_1 : decode prog_1_method_28_code 1 = .ok (.iconst 1, 1) := by decide +kernel
theorem d_RR_folds_2 : decode prog_1_method_28_code 2 = .ok (.if_icmp .lt 9, 3) := by decide +kernel
theorem d_RR_folds_5 : decode prog_1_method_28_code 5 = .ok (.iload_n 1, 1) := by decide +kernel
theorem d_RR_folds_6 : decode prog_1_method_28_code 6 = .ok (.bipush 8, 2) := by decide +kernel
theorem d_RR_folds_8 : decode prog_1_method_28_code 8 = .ok (.if_icmp .le 8, 3) := by decide +kernel
theorem d_RR_folds_11 : decode prog_1_method_28_code 11 = .ok (.ldc 50, 2) := by decide +kernel
theorem d_RR_folds_13 : decode prog_1_method_28_code 13 = .ok (.goto 12, 3) := by decide +kernel
theorem d_RR_folds_16 : decode prog_1_method_28_code 16 = .ok (.iload_n 1, 1) := by decide +kernel
theorem d_RR_folds_17 : decode prog_1_method_28_code 17 = .ok (.getstatic 217, 3) := by decide +kernel
theorem d_RR_folds_20 : decode prog_1_method_28_code 20 = .ok (.iload_n 1, 1) := by decide +kernel
theorem d_RR_folds_21 : decode prog_1_method_28_code 21 = .ok (.iconst 1, 1) := by decide +kernel
theorem d_RR_folds_22 : decode prog_1_method_28_code 22 = .ok (.isub, 1) := by decide +kernel
theorem d_RR_folds_23 : decode prog_1_method_28_code 23 = .ok (.iaload, 1) := by decide +kernel
theorem d_RR_folds_24 : decode prog_1_method_28_code 24 = .ok (.imul, 1) := by decide +kernel
theorem d_RR_folds_25 : decode prog_1_method_28_code 25 = .ok (.ireturn, 1) := by decide +kernel
theorem d_RR_nthFold_0 : decode prog_1_method_29_code 0 = .ok (.iload_n 1, 1) := by decide +kernel
theorem d_RR_nthFold_1 : decode prog_1_method_29_code 1 = .ok (.invokestatic 80, 3) := by decide +kernel
theorem d_RR_nthFold_4 : decode prog_1_method_29_code 4 = .ok (.ifCond .eq 14, 3) := by decide +kernel
theorem d_RR_nthFold_7 : decode prog_1_method_29_code 7 = .ok (.iload_n 2, 1) := by decide +kernel
theorem d_RR_nthFold_8 : decode prog_1_method_29_code 8 = .ok (.iconst 1, 1) := by decide +kernel
theorem d_RR_nthFold_9 : decode prog_1_method_29_code 9 = .ok (.if_icmp .lt 9, 3) := by decide +kernel
theorem d_RR_nthFold_12 : decode prog_1_method_29_code 12 = .ok (.iload_n 2, 1) := by decide +kernel
theorem d_RR_nthFold_13 : decode prog_1_method_29_code 13 = .ok (.bipush 8, 2) := by decide +kernel
theorem d_RR_nthFold_15 : decode prog_1_method_29_code 15 = .ok (.if_icmp .le 6, 3) := by decide +kernel
theorem d_RR_nthFold_18 : decode prog_1_method_29_code 18 = .ok (.ldc 50, 2) := by decide +kernel
theorem d_RR_nthFold_20 : decode prog_1_method_29_code 20 = .ok (.ireturn, 1) := by decide +kernel
theorem d_RR_nthFold_21 : decode prog_1_method_29_code 21 = .ok (.iload_n 3, 1) := by decide +kernel
theorem d_RR_nthFold_22 : decode prog_1_method_29_code 22 = .ok (.ifCond .lt 12, 3) := by decide +kernel
theorem d_RR_nthFold_25 : decode prog_1_method_29_code 25 = .ok (.aload_n 0, 1) := by decide +kernel
theorem d_RR_nthFold_26 : decode prog_1_method_29_code 26 = .ok (.iload_n 2, 1) := by decide +kernel
theorem d_RR_nthFold_27 : decode prog_1_method_29_code 27 = .ok (.iload_n 3, 1) := by decide +kernel
theorem d_RR_nthFold_28 : decode prog_1_method_29_code 28 = .ok (.invokevirtual 220, 3) := by decide +kernel
theorem d_RR_nthFold_31 : decode prog_1_method_29_code 31 = .ok (.ifCond .ne 10, 3) := by decide +kernel
theorem d_RR_nthFold_34 : decode prog_1_method_29_code 34 = .ok (.aload_n 0, 1) := by decide +kernel
theorem d_RR_nthFold_35 : decode prog_1_method_29_code 35 = .ok (.ldc 117, 2) := by decide +kernel
theorem d_RR_nthFold_37 : decode prog_1_method_29_code 37 = .ok (.invokevirtual 58, 3) := by decide +kernel
theorem d_RR_nthFold_40 : decode prog_1_method_29_code 40 = .ok (.ireturn, 1) := by decide +kernel
theorem d_RR_nthFold_41 : decode prog_1_method_29_code 41 = .ok (.aload_n 0, 1) := by decide +kernel
theorem d_RR_nthFold_42 : decode prog_1_method_29_code 42 = .ok (.iload_n 1, 1) := by decide +kernel
theorem d_RR_nthFold_43 : decode prog_1_method_29_code 43 = .ok (.aload_n 0, 1) := by decide +kernel
theorem d_RR_nthFold_44 : decode prog_1_method_29_code 44 = .ok (.getfield 36, 3) := by decide +kernel
theorem d_RR_nthFold_47 : decode prog_1_method_29_code 47 = .ok (.iload_n 2, 1) := by decide +kernel
theorem d_RR_nthFold_48 : decode prog_1_method_29_code 48 = .ok (.invokestatic 223, 3) := by decide +kernel
theorem d_RR_nthFold_51 : decode prog_1_method_29_code 51 = .ok (.invokestatic 109, 3) := by decide +kernel
theorem d_RR_nthFold_54 : decode prog_1_method_29_code 54 = .ok (.invokevirtual 87, 3) := by decide +kernel
theorem d_RR_nthFold_57 : decode prog_1_method_29_code 57 = .ok (.ireturn, 1) := by decide +kernel
theorem d_RR_seekNthFold_0 : decode prog_1_method_58_code 0 = .ok (.getstatic 217, 3) := by decide +kernel
theorem d_RR_seekNthFold_3 : decode prog_1_method_58_code 3 = .ok (.iload_n 1, 1) := by decide +kernel
theorem d_RR_seekNthFold_4 : decode prog_1_method_58_code 4 = .ok (.iconst 1, 1) := by decide +kernel
end
section
/-! DECODE ROWS, printed by wip/whole/gen/tables.py -/
theorem d_RR_seekNthFold_5 : decode prog_1_method_58_code 5 = .ok (.isub, 1) := by decide +kernel
theorem d_RR_seekNthFold_6 : decode prog_1_method_58_code 6 = .ok (.iaload, 1) := by decide +kernel
theorem d_RR_seekNthFold_7 : decode prog_1_method_58_code 7 = .ok (.istore_n 3, 1) := by decide +kernel
theorem d_RR_seekNthFold_8 : decode prog_1_method_58_code 8 = .ok (.iload_n 2, 1) := by decide +kernel
theorem d_RR_seekNthFold_9 : decode prog_1_method_58_code 9 = .ok (.istore 4, 2) := by decide +kernel
theorem d_RR_seekNthFold_11 : decode prog_1_method_58_code 11 = .ok (.iconst 0, 1) := by decide +kernel
theorem d_RR_seekNthFold_12 : decode prog_1_method_58_code 12 = .ok (.istore 5, 2) := by decide +kernel
theorem d_RR_seekNthFold_14 : decode prog_1_method_58_code 14 = .ok (.iload 5, 2) := by decide +kernel
theorem d_RR_seekNthFold_16 : decode prog_1_method_58_code 16 = .ok (.iload_n 1, 1) := by decide +kernel
theorem d_RR_seekNthFold_17 : decode prog_1_method_58_code 17 = .ok (.if_icmp .ge 21, 3) := by decide +kernel
theorem d_RR_seekNthFold_20 : decode prog_1_method_58_code 20 = .ok (.iload 4, 2) := by decide +kernel
theorem d_RR_seekNthFold_22 : decode prog_1_method_58_code 22 = .ok (.iload_n 3, 1) := by decide +kernel
theorem d_RR_seekNthFold_23 : decode prog_1_method_58_code 23 = .ok (.if_icmp .lt 15, 3) := by decide +kernel
theorem d_RR_seekNthFold_26 : decode prog_1_method_58_code 26 = .ok (.iload 4, 2) := by decide +kernel
theorem d_RR_seekNthFold_28 : decode prog_1_method_58_code 28 = .ok (.iload_n 3, 1) := by decide +kernel
theorem d_RR_seekNthFold_29 : decode prog_1_method_58_code 29 = .ok (.isub, 1) := by decide +kernel
theorem d_RR_seekNthFold_30 : decode prog_1_method_58_code 30 = .ok (.istore 4, 2) := by decide +kernel
theorem d_RR_seekNthFold_32 : decode prog_1_method_58_code 32 = .ok (.iinc 5 1, 3) := by decide +kernel
theorem d_RR_seekNthFold_35 : decode prog_1_method_58_code 35 = .ok (.goto (-21), 3) := by decide +kernel
theorem d_RR_seekNthFold_38 : decode prog_1_method_58_code 38 = .ok (.iload 5, 2) := by decide +kernel
theorem d_RR_seekNthFold_40 : decode prog_1_method_58_code 40 = .ok (.iload_n 1, 1) := by decide +kernel
theorem d_RR_seekNthFold_41 : decode prog_1_method_58_code 41 = .ok (.if_icmp .ne 5, 3) := by decide +kernel
theorem d_RR_seekNthFold_44 : decode prog_1_method_58_code 44 = .ok (.iconst 0, 1) := by decide +kernel
theorem d_RR_seekNthFold_45 : decode prog_1_method_58_code 45 = .ok (.ireturn, 1) := by decide +kernel
theorem d_RR_seekNthFold_46 : decode prog_1_method_58_code 46 = .ok (.aload_n 0, 1) := by decide +kernel
theorem d_RR_seekNthFold_47 : decode prog_1_method_58_code 47 = .ok (.getfield 39, 3) := by decide +kernel
theorem d_RR_seekNthFold_50 : decode prog_1_method_58_code 50 = .ok (.ldc 117, 2) := by decide +kernel
theorem d_RR_seekNthFold_52 : decode prog_1_method_58_code 52 = .ok (.invokestatic 270, 3) := by decide +kernel
theorem d_RR_seekNthFold_55 : decode prog_1_method_58_code 55 = .ok (.aload_n 0, 1) := by decide +kernel
theorem d_RR_seekNthFold_56 : decode prog_1_method_58_code 56 = .ok (.getfield 36, 3) := by decide +kernel
theorem d_RR_seekNthFold_59 : decode prog_1_method_58_code 59 = .ok (.iconst 0, 1) := by decide +kernel
theorem d_RR_seekNthFold_60 : decode prog_1_method_58_code 60 = .ok (.iload 5, 2) := by decide +kernel
theorem d_RR_seekNthFold_62 : decode prog_1_method_58_code 62 = .ok (.iastore, 1) := by decide +kernel
theorem d_RR_seekNthFold_63 : decode prog_1_method_58_code 63 = .ok (.aload_n 0, 1) := by decide +kernel
theorem d_RR_seekNthFold_64 : decode prog_1_method_58_code 64 = .ok (.getfield 39, 3) := by decide +kernel
theorem d_RR_seekNthFold_67 : decode prog_1_method_58_code 67 = .ok (.iload 5, 2) := by decide +kernel
theorem d_RR_seekNthFold_69 : decode prog_1_method_58_code 69 = .ok (.iconst 0, 1) := by decide +kernel
theorem d_RR_seekNthFold_70 : decode prog_1_method_58_code 70 = .ok (.iastore, 1) := by decide +kernel
theorem d_RR_seekNthFold_71 : decode prog_1_method_58_code 71 = .ok (.aload_n 0, 1) := by decide +kernel
theorem d_RR_seekNthFold_72 : decode prog_1_method_58_code 72 = .ok (.iload_n 1, 1) := by decide +kernel
theorem d_RR_seekNthFold_73 : decode prog_1_method_58_code 73 = .ok (.iconst 1, 1) := by decide +kernel
theorem d_RR_seekNthFold_74 : decode prog_1_method_58_code 74 = .ok (.iload 4, 2) := by decide +kernel
theorem d_RR_seekNthFold_76 : decode prog_1_method_58_code 76 = .ok (.invokevirtual 299, 3) := by decide +kernel
theorem d_RR_seekNthFold_79 : decode prog_1_method_58_code 79 = .ok (.ifCond .ge 7, 3) := by decide +kernel
theorem d_RR_seekNthFold_82 : decode prog_1_method_58_code 82 = .ok (.iconst 1, 1) := by decide +kernel
theorem d_RR_seekNthFold_83 : decode prog_1_method_58_code 83 = .ok (.goto 4, 3) := by decide +kernel
theorem d_RR_seekNthFold_86 : decode prog_1_method_58_code 86 = .ok (.iconst 0, 1) := by decide +kernel
theorem d_RR_seekNthFold_87 : decode prog_1_method_58_code 87 = .ok (.ireturn, 1) := by decide +kernel
theorem d_RR_seekFold_0 : decode prog_1_method_59_code 0 = .ok (.iload_n 2, 1) := by decide +kernel
theorem d_RR_seekFold_1 : decode prog_1_method_59_code 1 = .ok (.iload_n 1, 1) := by decide +kernel
theorem d_RR_seekFold_2 : decode prog_1_method_59_code 2 = .ok (.if_icmp .lt 7, 3) := by decide +kernel
theorem d_RR_seekFold_5 : decode prog_1_method_59_code 5 = .ok (.iload_n 3, 1) := by decide +kernel
theorem d_RR_seekFold_6 : decode prog_1_method_59_code 6 = .ok (.iconst 1, 1) := by decide +kernel
theorem d_RR_seekFold_7 : decode prog_1_method_59_code 7 = .ok (.isub, 1) := by decide +kernel
theorem d_RR_seekFold_8 : decode prog_1_method_59_code 8 = .ok (.ireturn, 1) := by decide +kernel
theorem d_RR_seekFold_9 : decode prog_1_method_59_code 9 = .ok (.iload_n 3, 1) := by decide +kernel
theorem d_RR_seekFold_10 : decode prog_1_method_59_code 10 = .ok (.istore 4, 2) := by decide +kernel
theorem d_RR_seekFold_12 : decode prog_1_method_59_code 12 = .ok (.iconst 0, 1) := by decide +kernel
theorem d_RR_seekFold_13 : decode prog_1_method_59_code 13 = .ok (.istore 5, 2) := by decide +kernel
theorem d_RR_seekFold_15 : decode prog_1_method_59_code 15 = .ok (.iload 5, 2) := by decide +kernel
theorem d_RR_seekFold_17 : decode prog_1_method_59_code 17 = .ok (.iload_n 1, 1) := by decide +kernel
theorem d_RR_seekFold_18 : decode prog_1_method_59_code 18 = .ok (.if_icmp .ge 77, 3) := by decide +kernel
theorem d_RR_seekFold_21 : decode prog_1_method_59_code 21 = .ok (.aload_n 0, 1) := by decide +kernel
theorem d_RR_seekFold_22 : decode prog_1_method_59_code 22 = .ok (.getfield 39, 3) := by decide +kernel
theorem d_RR_seekFold_25 : decode prog_1_method_59_code 25 = .ok (.iload 5, 2) := by decide +kernel
theorem d_RR_seekFold_27 : decode prog_1_method_59_code 27 = .ok (.iaload, 1) := by decide +kernel
theorem d_RR_seekFold_28 : decode prog_1_method_59_code 28 = .ok (.ldc 117, 2) := by decide +kernel
theorem d_RR_seekFold_30 : decode prog_1_method_59_code 30 = .ok (.if_icmp .ne 59, 3) := by decide +kernel
theorem d_RR_seekFold_33 : decode prog_1_method_59_code 33 = .ok (.aload_n 0, 1) := by decide +kernel
theorem d_RR_seekFold_34 : decode prog_1_method_59_code 34 = .ok (.iload_n 1, 1) := by decide +kernel
theorem d_RR_seekFold_35 : decode prog_1_method_59_code 35 = .ok (.iload_n 2, 1) := by decide +kernel
theorem d_RR_seekFold_36 : decode prog_1_method_59_code 36 = .ok (.iload 5, 2) := by decide +kernel
theorem d_RR_seekFold_38 : decode prog_1_method_59_code 38 = .ok (.invokevirtual 303, 3) := by decide +kernel
theorem d_RR_seekFold_41 : decode prog_1_method_59_code 41 = .ok (.ifCond .eq 48, 3) := by decide +kernel
theorem d_RR_seekFold_44 : decode prog_1_method_59_code 44 = .ok (.aload_n 0, 1) := by decide +kernel
theorem d_RR_seekFold_45 : decode prog_1_method_59_code 45 = .ok (.getfield 36, 3) := by decide +kernel
theorem d_RR_seekFold_48 : decode prog_1_method_59_code 48 = .ok (.iload_n 2, 1) := by decide +kernel
theorem d_RR_seekFold_49 : decode prog_1_method_59_code 49 = .ok (.iload 5, 2) := by decide +kernel
theorem d_RR_seekFold_51 : decode prog_1_method_59_code 51 = .ok (.iastore, 1) := by decide +kernel
theorem d_RR_seekFold_52 : decode prog_1_method_59_code 52 = .ok (.aload_n 0, 1) := by decide +kernel
theorem d_RR_seekFold_53 : decode prog_1_method_59_code 53 = .ok (.getfield 39, 3) := by decide +kernel
theorem d_RR_seekFold_56 : decode prog_1_method_59_code 56 = .ok (.iload 5, 2) := by decide +kernel
theorem d_RR_seekFold_58 : decode prog_1_method_59_code 58 = .ok (.iload_n 2, 1) := by decide +kernel
theorem d_RR_seekFold_59 : decode prog_1_method_59_code 59 = .ok (.iastore, 1) := by decide +kernel
theorem d_RR_seekFold_60 : decode prog_1_method_59_code 60 = .ok (.aload_n 0, 1) := by decide +kernel
theorem d_RR_seekFold_61 : decode prog_1_method_59_code 61 = .ok (.iload_n 1, 1) := by decide +kernel
theorem d_RR_seekFold_62 : decode prog_1_method_59_code 62 = .ok (.iload_n 2, 1) := by decide +kernel
theorem d_RR_seekFold_63 : decode prog_1_method_59_code 63 = .ok (.iconst 1, 1) := by decide +kernel
theorem d_RR_seekFold_64 : decode prog_1_method_59_code 64 = .ok (.iadd, 1) := by decide +kernel
theorem d_RR_seekFold_65 : decode prog_1_method_59_code 65 = .ok (.iload 4, 2) := by decide +kernel
theorem d_RR_seekFold_67 : decode prog_1_method_59_code 67 = .ok (.invokevirtual 299, 3) := by decide +kernel
theorem d_RR_seekFold_70 : decode prog_1_method_59_code 70 = .ok (.istore 4, 2) := by decide +kernel
theorem d_RR_seekFold_72 : decode prog_1_method_59_code 72 = .ok (.iload 4, 2) := by decide +kernel
theorem d_RR_seekFold_74 : decode prog_1_method_59_code 74 = .ok (.ifCond .ge 6, 3) := by decide +kernel
theorem d_RR_seekFold_77 : decode prog_1_method_59_code 77 = .ok (.iload 4, 2) := by decide +kernel
theorem d_RR_seekFold_79 : decode prog_1_method_59_code 79 = .ok (.ireturn, 1) := by decide +kernel
theorem d_RR_seekFold_80 : decode prog_1_method_59_code 80 = .ok (.aload_n 0, 1) := by decide +kernel
theorem d_RR_seekFold_81 : decode prog_1_method_59_code 81 = .ok (.getfield 39, 3) := by decide +kernel
theorem d_RR_seekFold_84 : decode prog_1_method_59_code 84 = .ok (.iload 5, 2) := by decide +kernel
theorem d_RR_seekFold_86 : decode prog_1_method_59_code 86 = .ok (.ldc 117, 2) := by decide +kernel
theorem d_RR_seekFold_88 : decode prog_1_method_59_code 88 = .ok (.iastore, 1) := by decide +kernel
theorem d_RR_seekFold_89 : decode prog_1_method_59_code 89 = .ok (.iinc 5 1, 3) := by decide +kernel
theorem d_RR_seekFold_92 : decode prog_1_method_59_code 92 = .ok (.goto (-77), 3) := by decide +kernel
theorem d_RR_seekFold_95 : decode prog_1_method_59_code 95 = .ok (.iload 4, 2) := by decide +kernel
theorem d_RR_seekFold_97 : decode prog_1_method_59_code 97 = .ok (.ireturn, 1) := by decide +kernel
theorem d_RR_fits_0 : decode prog_1_method_60_code 0 = .ok (.aload_n 0, 1) := by decide +kernel
theorem d_RR_fits_1 : decode prog_1_method_60_code 1 = .ok (.iload_n 1, 1) := by decide +kernel
theorem d_RR_fits_2 : decode prog_1_method_60_code 2 = .ok (.iload_n 2, 1) := by decide +kernel
theorem d_RR_fits_3 : decode prog_1_method_60_code 3 = .ok (.iload_n 3, 1) := by decide +kernel
theorem d_RR_fits_4 : decode prog_1_method_60_code 4 = .ok (.iconst 0, 1) := by decide +kernel
theorem d_RR_fits_5 : decode prog_1_method_60_code 5 = .ok (.invokevirtual 306, 3) := by decide +kernel
theorem d_RR_fits_8 : decode prog_1_method_60_code 8 = .ok (.ifCond .eq 18, 3) := by decide +kernel
theorem d_RR_fits_11 : decode prog_1_method_60_code 11 = .ok (.aload_n 0, 1) := by decide +kernel
theorem d_RR_fits_12 : decode prog_1_method_60_code 12 = .ok (.iload_n 1, 1) := by decide +kernel
theorem d_RR_fits_13 : decode prog_1_method_60_code 13 = .ok (.iload_n 2, 1) := by decide +kernel
theorem d_RR_fits_14 : decode prog_1_method_60_code 14 = .ok (.iload_n 3, 1) := by decide +kernel
theorem d_RR_fits_15 : decode prog_1_method_60_code 15 = .ok (.iconst 1, 1) := by decide +kernel
theorem d_RR_fits_16 : decode prog_1_method_60_code 16 = .ok (.invokevirtual 306, 3) := by decide +kernel
theorem d_RR_fits_19 : decode prog_1_method_60_code 19 = .ok (.ifCond .eq 7, 3) := by decide +kernel
theorem d_RR_fits_22 : decode prog_1_method_60_code 22 = .ok (.iconst 1, 1) := by decide +kernel
theorem d_RR_fits_23 : decode prog_1_method_60_code 23 = .ok (.goto 4, 3) := by decide +kernel
theorem d_RR_fits_26 : decode prog_1_method_60_code 26 = .ok (.iconst 0, 1) := by decide +kernel
theorem d_RR_fits_27 : decode prog_1_method_60_code 27 = .ok (.ireturn, 1) := by decide +kernel
theorem d_RR_closes_0 : decode prog_1_method_61_code 0 = .ok (.iload_n 1, 1) := by decide +kernel
theorem d_RR_closes_1 : decode prog_1_method_61_code 1 = .ok (.iload_n 3, 1) := by decide +kernel
theorem d_RR_closes_2 : decode prog_1_method_61_code 2 = .ok (.iload 4, 2) := by decide +kernel
theorem d_RR_closes_4 : decode prog_1_method_61_code 4 = .ok (.invokestatic 310, 3) := by decide +kernel
theorem d_RR_closes_7 : decode prog_1_method_61_code 7 = .ok (.istore 5, 2) := by decide +kernel
theorem d_RR_closes_9 : decode prog_1_method_61_code 9 = .ok (.iload 5, 2) := by decide +kernel
theorem d_RR_closes_11 : decode prog_1_method_61_code 11 = .ok (.ldc 117, 2) := by decide +kernel
theorem d_RR_closes_13 : decode prog_1_method_61_code 13 = .ok (.if_icmp .eq 15, 3) := by decide +kernel
theorem d_RR_closes_16 : decode prog_1_method_61_code 16 = .ok (.aload_n 0, 1) := by decide +kernel
theorem d_RR_closes_17 : decode prog_1_method_61_code 17 = .ok (.getfield 39, 3) := by decide +kernel
theorem d_RR_closes_20 : decode prog_1_method_61_code 20 = .ok (.iload 5, 2) := by decide +kernel
theorem d_RR_closes_22 : decode prog_1_method_61_code 22 = .ok (.iaload, 1) := by decide +kernel
theorem d_RR_closes_23 : decode prog_1_method_61_code 23 = .ok (.ldc 117, 2) := by decide +kernel
theorem d_RR_closes_25 : decode prog_1_method_61_code 25 = .ok (.if_icmp .ne 5, 3) := by decide +kernel
theorem d_RR_closes_28 : decode prog_1_method_61_code 28 = .ok (.iconst 1, 1) := by decide +kernel
theorem d_RR_closes_29 : decode prog_1_method_61_code 29 = .ok (.ireturn, 1) := by decide +kernel
theorem d_RR_closes_30 : decode prog_1_method_61_code 30 = .ok (.aload_n 0, 1) := by decide +kernel
theorem d_RR_closes_31 : decode prog_1_method_61_code 31 = .ok (.getfield 39, 3) := by decide +kernel
theorem d_RR_closes_34 : decode prog_1_method_61_code 34 = .ok (.iload 5, 2) := by decide +kernel
theorem d_RR_closes_36 : decode prog_1_method_61_code 36 = .ok (.iaload, 1) := by decide +kernel
theorem d_RR_closes_37 : decode prog_1_method_61_code 37 = .ok (.istore 6, 2) := by decide +kernel
theorem d_RR_closes_39 : decode prog_1_method_61_code 39 = .ok (.iload 6, 2) := by decide +kernel
theorem d_RR_closes_41 : decode prog_1_method_61_code 41 = .ok (.iconst 1, 1) := by decide +kernel
theorem d_RR_closes_42 : decode prog_1_method_61_code 42 = .ok (.iadd, 1) := by decide +kernel
theorem d_RR_closes_43 : decode prog_1_method_61_code 43 = .ok (.istore 7, 2) := by decide +kernel
theorem d_RR_closes_45 : decode prog_1_method_61_code 45 = .ok (.iload 7, 2) := by decide +kernel
theorem d_RR_closes_47 : decode prog_1_method_61_code 47 = .ok (.iload_n 2, 1) := by decide +kernel
theorem d_RR_closes_48 : decode prog_1_method_61_code 48 = .ok (.if_icmp .ge 49, 3) := by decide +kernel
theorem d_RR_closes_51 : decode prog_1_method_61_code 51 = .ok (.iload_n 1, 1) := by decide +kernel
theorem d_RR_closes_52 : decode prog_1_method_61_code 52 = .ok (.aload_n 0, 1) := by decide +kernel
theorem d_RR_closes_53 : decode prog_1_method_61_code 53 = .ok (.getfield 36, 3) := by decide +kernel
theorem d_RR_closes_56 : decode prog_1_method_61_code 56 = .ok (.iload 7, 2) := by decide +kernel
theorem d_RR_closes_58 : decode prog_1_method_61_code 58 = .ok (.iaload, 1) := by decide +kernel
theorem d_RR_closes_59 : decode prog_1_method_61_code 59 = .ok (.iload 4, 2) := by decide +kernel
theorem d_RR_closes_61 : decode prog_1_method_61_code 61 = .ok (.invokestatic 310, 3) := by decide +kernel
theorem d_RR_closes_64 : decode prog_1_method_61_code 64 = .ok (.istore 8, 2) := by decide +kernel
theorem d_RR_closes_66 : decode prog_1_method_61_code 66 = .ok (.iload 8, 2) := by decide +kernel
theorem d_RR_closes_68 : decode prog_1_method_61_code 68 = .ok (.ldc 117, 2) := by decide +kernel
theorem d_RR_closes_70 : decode prog_1_method_61_code 70 = .ok (.if_icmp .eq 21, 3) := by decide +kernel
theorem d_RR_closes_73 : decode prog_1_method_61_code 73 = .ok (.aload_n 0, 1) := by decide +kernel
theorem d_RR_closes_74 : decode prog_1_method_61_code 74 = .ok (.getfield 39, 3) := by decide +kernel
theorem d_RR_closes_77 : decode prog_1_method_61_code 77 = .ok (.iload 8, 2) := by decide +kernel
theorem d_RR_closes_79 : decode prog_1_method_61_code 79 = .ok (.iaload, 1) := by decide +kernel
theorem d_RR_closes_80 : decode prog_1_method_61_code 80 = .ok (.iload 6, 2) := by decide +kernel
theorem d_RR_closes_82 : decode prog_1_method_61_code 82 = .ok (.iload_n 2, 1) := by decide +kernel
theorem d_RR_closes_83 : decode prog_1_method_61_code 83 = .ok (.invokestatic 295, 3) := by decide +kernel
theorem d_RR_closes_86 : decode prog_1_method_61_code 86 = .ok (.ifCond .ne 5, 3) := by decide +kernel
theorem d_RR_closes_89 : decode prog_1_method_61_code 89 = .ok (.iconst 0, 1) := by decide +kernel
theorem d_RR_closes_90 : decode prog_1_method_61_code 90 = .ok (.ireturn, 1) := by decide +kernel
theorem d_RR_closes_91 : decode prog_1_method_61_code 91 = .ok (.iinc 7 1, 3) := by decide +kernel
theorem d_RR_closes_94 : decode prog_1_method_61_code 94 = .ok (.goto (-49), 3) := by decide +kernel
theorem d_RR_closes_97 : decode prog_1_method_61_code 97 = .ok (.iconst 1, 1) := by decide +kernel
theorem d_RR_closes_98 : decode prog_1_method_61_code 98 = .ok (.ireturn, 1) := by decide +kernel
theorem d_RR_mateOf_0 : decode prog_1_method_62_code 0 = .ok (.iload_n 1, 1) := by decide +kernel
theorem d_RR_mateOf_1 : decode prog_1_method_62_code 1 = .ok (.iconst 1, 1) := by decide +kernel
theorem d_RR_mateOf_2 : decode prog_1_method_62_code 2 = .ok (.iand, 1) := by decide +kernel
theorem d_RR_mateOf_3 : decode prog_1_method_62_code 3 = .ok (.iload_n 2, 1) := by decide +kernel
theorem d_RR_mateOf_4 : decode prog_1_method_62_code 4 = .ok (.if_icmp .ne 9, 3) := by decide +kernel
theorem d_RR_mateOf_7 : decode prog_1_method_62_code 7 = .ok (.iload_n 1, 1) := by decide +kernel
theorem d_RR_mateOf_8 : decode prog_1_method_62_code 8 = .ok (.iconst 1, 1) := by decide +kernel
theorem d_RR_mateOf_9 : decode prog_1_method_62_code 9 = .ok (.iadd, 1) := by decide +kernel
theorem d_RR_mateOf_10 : decode prog_1_method_62_code 10 = .ok (.goto 6, 3) := by decide +kernel
theorem d_RR_mateOf_13 : decode prog_1_method_62_code 13 = .ok (.iload_n 1, 1) := by decide +kernel
theorem d_RR_mateOf_14 : decode prog_1_method_62_code 14 = .ok (.iconst 1, 1) := by decide +kernel
theorem d_RR_mateOf_15 : decode prog_1_method_62_code 15 = .ok (.isub, 1) := by decide +kernel
theorem d_RR_mateOf_16 : decode prog_1_method_62_code 16 = .ok (.istore_n 3, 1) := by decide +kernel
theorem d_RR_mateOf_17 : decode prog_1_method_62_code 17 = .ok (.iload_n 3, 1) := by decide +kernel
theorem d_RR_mateOf_18 : decode prog_1_method_62_code 18 = .ok (.ifCond .lt 8, 3) := by decide +kernel
theorem d_RR_mateOf_21 : decode prog_1_method_62_code 21 = .ok (.iload_n 3, 1) := by decide +kernel
theorem d_RR_mateOf_22 : decode prog_1_method_62_code 22 = .ok (.iload_n 0, 1) := by decide +kernel
theorem d_RR_mateOf_23 : decode prog_1_method_62_code 23 = .ok (.if_icmp .lt 8, 3) := by decide +kernel
theorem d_RR_mateOf_26 : decode prog_1_method_62_code 26 = .ok (.ldc 117, 2) := by decide +kernel
theorem d_RR_mateOf_28 : decode prog_1_method_62_code 28 = .ok (.goto 4, 3) := by decide +kernel
theorem d_RR_mateOf_31 : decode prog_1_method_62_code 31 = .ok (.iload_n 3, 1) := by decide +kernel
theorem d_RR_mateOf_32 : decode prog_1_method_62_code 32 = .ok (.ireturn, 1) := by decide +kernel
theorem d_JA_copyOf_0 : decode prog_19_method_123_code 0 = .ok (.iload_n 1, 1) := by decide +kernel
theorem d_JA_copyOf_1 : decode prog_19_method_123_code 1 = .ok (.aload_n 0, 1) := by decide +kernel
theorem d_JA_copyOf_2 : decode prog_19_method_123_code 2 = .ok (.arraylength, 1) := by decide +kernel
theorem d_JA_copyOf_3 : decode prog_19_method_123_code 3 = .ok (.if_icmp .ne 11, 3) := by decide +kernel
theorem d_JA_copyOf_6 : decode prog_19_method_123_code 6 = .ok (.aload_n 0, 1) := by decide +kernel
theorem d_JA_copyOf_7 : decode prog_19_method_123_code 7 = .ok (.invokevirtual 316, 3) := by decide +kernel
theorem d_JA_copyOf_10 : decode prog_19_method_123_code 10 = .ok (.checkcast 317, 3) := by decide +kernel
theorem d_JA_copyOf_13 : decode prog_19_method_123_code 13 = .ok (.areturn, 1) := by decide +kernel
theorem d_JA_copyOf_14 : decode prog_19_method_123_code 14 = .ok (.iload_n 1, 1) := by decide +kernel
theorem d_JA_copyOf_15 : decode prog_19_method_123_code 15 = .ok (.newarray .int, 2) := by decide +kernel
theorem d_JA_copyOf_17 : decode prog_19_method_123_code 17 = .ok (.astore_n 2, 1) := by decide +kernel
theorem d_JA_copyOf_18 : decode prog_19_method_123_code 18 = .ok (.aload_n 0, 1) := by decide +kernel
theorem d_JA_copyOf_19 : decode prog_19_method_123_code 19 = .ok (.iconst 0, 1) := by decide +kernel
theorem d_JA_copyOf_20 : decode prog_19_method_123_code 20 = .ok (.aload_n 2, 1) := by decide +kernel
theorem d_JA_copyOf_21 : decode prog_19_method_123_code 21 = .ok (.iconst 0, 1) := by decide +kernel
theorem d_JA_copyOf_22 : decode prog_19_method_123_code 22 = .ok (.aload_n 0, 1) := by decide +kernel
theorem d_JA_copyOf_23 : decode prog_19_method_123_code 23 = .ok (.arraylength, 1) := by decide +kernel
theorem d_JA_copyOf_24 : decode prog_19_method_123_code 24 = .ok (.iload_n 1, 1) := by decide +kernel
theorem d_JA_copyOf_25 : decode prog_19_method_123_code 25 = .ok (.invokestatic 304, 3) := by decide +kernel
theorem d_JA_copyOf_28 : decode prog_19_method_123_code 28 = .ok (.invokestatic 150, 3) := by decide +kernel
theorem d_JA_copyOf_31 : decode prog_19_method_123_code 31 = .ok (.aload_n 2, 1) := by decide +kernel
theorem d_JA_copyOf_32 : decode prog_19_method_123_code 32 = .ok (.areturn, 1) := by decide +kernel
theorem d_RR_count_0 : decode prog_1_method_30_code 0 = .ok (.iload_n 1, 1) := by decide +kernel
theorem d_RR_count_1 : decode prog_1_method_30_code 1 = .ok (.ifCond .lt 8, 3) := by decide +kernel
theorem d_RR_count_4 : decode prog_1_method_30_code 4 = .ok (.iload_n 1, 1) := by decide +kernel
theorem d_RR_count_5 : decode prog_1_method_30_code 5 = .ok (.iconst 4, 1) := by decide +kernel
theorem d_RR_count_6 : decode prog_1_method_30_code 6 = .ok (.if_icmp .le 6, 3) := by decide +kernel
theorem d_RR_count_9 : decode prog_1_method_30_code 9 = .ok (.ldc 50, 2) := by decide +kernel
theorem d_RR_count_11 : decode prog_1_method_30_code 11 = .ok (.ireturn, 1) := by decide +kernel
theorem d_RR_count_12 : decode prog_1_method_30_code 12 = .ok (.iconst 0, 1) := by decide +kernel
theorem d_RR_count_13 : decode prog_1_method_30_code 13 = .ok (.istore_n 2, 1) := by decide +kernel
theorem d_RR_count_14 : decode prog_1_method_30_code 14 = .ok (.iload_n 1, 1) := by decide +kernel
theorem d_RR_count_15 : decode prog_1_method_30_code 15 = .ok (.ifCond .ne 49, 3) := by decide +kernel
theorem d_RR_count_18 : decode prog_1_method_30_code 18 = .ok (.aload_n 0, 1) := by decide +kernel
theorem d_RR_count_19 : decode prog_1_method_30_code 19 = .ok (.getfield 11, 3) := by decide +kernel
theorem d_RR_count_22 : decode prog_1_method_30_code 22 = .ok (.astore_n 3, 1) := by decide +kernel
theorem d_RR_count_23 : decode prog_1_method_30_code 23 = .ok (.aload_n 3, 1) := by decide +kernel
theorem d_RR_count_24 : decode prog_1_method_30_code 24 = .ok (.arraylength, 1) := by decide +kernel
theorem d_RR_count_25 : decode prog_1_method_30_code 25 = .ok (.istore 4, 2) := by decide +kernel
theorem d_RR_count_27 : decode prog_1_method_30_code 27 = .ok (.iconst 0, 1) := by decide +kernel
theorem d_RR_count_28 : decode prog_1_method_30_code 28 = .ok (.istore 5, 2) := by decide +kernel
theorem d_RR_count_30 : decode prog_1_method_30_code 30 = .ok (.iload 5, 2) := by decide +kernel
theorem d_RR_count_32 : decode prog_1_method_30_code 32 = .ok (.iload 4, 2) := by decide +kernel
theorem d_RR_count_34 : decode prog_1_method_30_code 34 = .ok (.if_icmp .ge 28, 3) := by decide +kernel
theorem d_RR_count_37 : decode prog_1_method_30_code 37 = .ok (.aload_n 3, 1) := by decide +kernel
theorem d_RR_count_38 : decode prog_1_method_30_code 38 = .ok (.iload 5, 2) := by decide +kernel
theorem d_RR_count_40 : decode prog_1_method_30_code 40 = .ok (.aaload, 1) := by decide +kernel
theorem d_RR_count_41 : decode prog_1_method_30_code 41 = .ok (.astore 6, 2) := by decide +kernel
theorem d_RR_count_43 : decode prog_1_method_30_code 43 = .ok (.iload_n 2, 1) := by decide +kernel
theorem d_RR_count_44 : decode prog_1_method_30_code 44 = .ok (.aload 6, 2) := by decide +kernel
theorem d_RR_count_46 : decode prog_1_method_30_code 46 = .ok (.ifnonnull 7, 3) := by decide +kernel
theorem d_RR_count_49 : decode prog_1_method_30_code 49 = .ok (.iconst 0, 1) := by decide +kernel
theorem d_RR_count_50 : decode prog_1_method_30_code 50 = .ok (.goto 4, 3) := by decide +kernel
theorem d_RR_count_53 : decode prog_1_method_30_code 53 = .ok (.iconst 1, 1) := by decide +kernel
theorem d_RR_count_54 : decode prog_1_method_30_code 54 = .ok (.iadd, 1) := by decide +kernel
theorem d_RR_count_55 : decode prog_1_method_30_code 55 = .ok (.istore_n 2, 1) := by decide +kernel
theorem d_RR_count_56 : decode prog_1_method_30_code 56 = .ok (.iinc 5 1, 3) := by decide +kernel
theorem d_RR_count_59 : decode prog_1_method_30_code 59 = .ok (.goto (-29), 3) := by decide +kernel
theorem d_RR_count_62 : decode prog_1_method_30_code 62 = .ok (.iload_n 2, 1) := by decide +kernel
theorem d_RR_count_63 : decode prog_1_method_30_code 63 = .ok (.ireturn, 1) := by decide +kernel
theorem d_RR_count_64 : decode prog_1_method_30_code 64 = .ok (.aload_n 0, 1) := by decide +kernel
theorem d_RR_count_65 : decode prog_1_method_30_code 65 = .ok (.getfield 17, 3) := by decide +kernel
theorem d_RR_count_68 : decode prog_1_method_30_code 68 = .ok (.astore_n 3, 1) := by decide +kernel
theorem d_RR_count_69 : decode prog_1_method_30_code 69 = .ok (.aload_n 3, 1) := by decide +kernel
theorem d_RR_count_70 : decode prog_1_method_30_code 70 = .ok (.arraylength, 1) := by decide +kernel
theorem d_RR_count_71 : decode prog_1_method_30_code 71 = .ok (.istore 4, 2) := by decide +kernel
theorem d_RR_count_73 : decode prog_1_method_30_code 73 = .ok (.iconst 0, 1) := by decide +kernel
theorem d_RR_count_74 : decode prog_1_method_30_code 74 = .ok (.istore 5, 2) := by decide +kernel
theorem d_RR_count_76 : decode prog_1_method_30_code 76 = .ok (.iload 5, 2) := by decide +kernel
theorem d_RR_count_78 : decode prog_1_method_30_code 78 = .ok (.iload 4, 2) := by decide +kernel
theorem d_RR_count_80 : decode prog_1_method_30_code 80 = .ok (.if_icmp .ge 32, 3) := by decide +kernel
theorem d_RR_count_83 : decode prog_1_method_30_code 83 = .ok (.aload_n 3, 1) := by decide +kernel
theorem d_RR_count_84 : decode prog_1_method_30_code 84 = .ok (.iload 5, 2) := by decide +kernel
theorem d_RR_count_86 : decode prog_1_method_30_code 86 = .ok (.aaload, 1) := by decide +kernel
theorem d_RR_count_87 : decode prog_1_method_30_code 87 = .ok (.astore 6, 2) := by decide +kernel
theorem d_RR_count_89 : decode prog_1_method_30_code 89 = .ok (.iload_n 2, 1) := by decide +kernel
theorem d_RR_count_90 : decode prog_1_method_30_code 90 = .ok (.aload 6, 2) := by decide +kernel
theorem d_RR_count_92 : decode prog_1_method_30_code 92 = .ok (.iload_n 1, 1) := by decide +kernel
theorem d_RR_count_93 : decode prog_1_method_30_code 93 = .ok (.invokestatic 227, 3) := by decide +kernel
theorem d_RR_count_96 : decode prog_1_method_30_code 96 = .ok (.ifCond .eq 7, 3) := by decide +kernel
theorem d_RR_count_99 : decode prog_1_method_30_code 99 = .ok (.iconst 1, 1) := by decide +kernel
theorem d_RR_count_100 : decode prog_1_method_30_code 100 = .ok (.goto 4, 3) := by decide +kernel
theorem d_RR_count_103 : decode prog_1_method_30_code 103 = .ok (.iconst 0, 1) := by decide +kernel
theorem d_RR_count_104 : decode prog_1_method_30_code 104 = .ok (.iadd, 1) := by decide +kernel
theorem d_RR_count_105 : decode prog_1_method_30_code 105 = .ok (.istore_n 2, 1) := by decide +kernel
theorem d_RR_count_106 : decode prog_1_method_30_code 106 = .ok (.iinc 5 1, 3) := by decide +kernel
theorem d_RR_count_109 : decode prog_1_method_30_code 109 = .ok (.goto (-33), 3) := by decide +kernel
theorem d_RR_count_112 : decode prog_1_method_30_code 112 = .ok (.iload_n 2, 1) := by decide +kernel
theorem d_RR_count_113 : decode prog_1_method_30_code 113 = .ok (.ireturn, 1) := by decide +kernel
theorem d_RR_isCounted_0 : decode prog_1_method_41_code 0 = .ok (.iload_n 1, 1) := by decide +kernel
theorem d_RR_isCounted_1 : decode prog_1_method_41_code 1 = .ok (.tableswitch 47 1 3 #[27, 37, 42], 27) := by decide +kernel
theorem d_RR_isCounted_28 : decode prog_1_method_41_code 28 = .ok (.aload_n 0, 1) := by decide +kernel
theorem d_RR_isCounted_29 : decode prog_1_method_41_code 29 = .ok (.ifnull 7, 3) := by decide +kernel
theorem d_RR_isCounted_32 : decode prog_1_method_41_code 32 = .ok (.iconst 1, 1) := by decide +kernel
theorem d_RR_isCounted_33 : decode prog_1_method_41_code 33 = .ok (.goto 4, 3) := by decide +kernel
theorem d_RR_isCounted_36 : decode prog_1_method_41_code 36 = .ok (.iconst 0, 1) := by decide +kernel
theorem d_RR_isCounted_37 : decode prog_1_method_41_code 37 = .ok (.ireturn, 1) := by decide +kernel
theorem d_RR_isCounted_38 : decode prog_1_method_41_code 38 = .ok (.aload_n 0, 1) := by decide +kernel
theorem d_RR_isCounted_39 : decode prog_1_method_41_code 39 = .ok (.instanceof 171, 3) := by decide +kernel
theorem d_RR_isCounted_42 : decode prog_1_method_41_code 42 = .ok (.ireturn, 1) := by decide +kernel
theorem d_RR_isCounted_43 : decode prog_1_method_41_code 43 = .ok (.aload_n 0, 1) := by decide +kernel
theorem d_RR_isCounted_44 : decode prog_1_method_41_code 44 = .ok (.instanceof 137, 3) := by decide +kernel
theorem d_RR_isCounted_47 : decode prog_1_method_41_code 47 = .ok (.ireturn, 1) := by decide +kernel
theorem d_RR_isCounted_48 : decode prog_1_method_41_code 48 = .ok (.aload_n 0, 1) := by decide +kernel
theorem d_RR_isCounted_49 : decode prog_1_method_41_code 49 = .ok (.instanceof 205, 3) := by decide +kernel
theorem d_RR_isCounted_52 : decode prog_1_method_41_code 52 = .ok (.ireturn, 1) := by decide +kernel
theorem d_RR_status_0 : decode prog_1_method_31_code 0 = .ok (.aload_n 0, 1) := by decide +kernel
theorem d_RR_status_1 : decode prog_1_method_31_code 1 = .ok (.getfield 42, 3) := by decide +kernel
theorem d_RR_status_4 : decode prog_1_method_31_code 4 = .ok (.ireturn, 1) := by decide +kernel
theorem d_Mo_init_0 : decode prog_14_method_1_code 0 = .ok (.aload_n 0, 1) := by decide +kernel
theorem d_Mo_init_1 : decode prog_14_method_1_code 1 = .ok (.invokespecial 1, 3) := by decide +kernel
theorem d_Mo_init_4 : decode prog_14_method_1_code 4 = .ok (.aload_n 0, 1) := by decide +kernel
theorem d_Mo_init_5 : decode prog_14_method_1_code 5 = .ok (.bipush 8, 2) := by decide +kernel
theorem d_Mo_init_7 : decode prog_14_method_1_code 7 = .ok (.newarray .int, 2) := by decide +kernel
theorem d_Mo_init_9 : decode prog_14_method_1_code 9 = .ok (.putfield 7, 3) := by decide +kernel
theorem d_Mo_init_12 : decode prog_14_method_1_code 12 = .ok (.aload_n 0, 1) := by decide +kernel
theorem d_Mo_init_13 : decode prog_14_method_1_code 13 = .ok (.bipush 8, 2) := by decide +kernel
theorem d_Mo_init_15 : decode prog_14_method_1_code 15 = .ok (.newarray .int, 2) := by decide +kernel
theorem d_Mo_init_17 : decode prog_14_method_1_code 17 = .ok (.putfield 13, 3) := by decide +kernel
theorem d_Mo_init_20 : decode prog_14_method_1_code 20 = .ok (.aload_n 0, 1) := by decide +kernel
theorem d_Mo_init_21 : decode prog_14_method_1_code 21 = .ok (.sipush 800, 3) := by decide +kernel
theorem d_Mo_init_24 : decode prog_14_method_1_code 24 = .ok (.newarray .int, 2) := by decide +kernel
theorem d_Mo_init_26 : decode prog_14_method_1_code 26 = .ok (.putfield 16, 3) := by decide +kernel
theorem d_Mo_init_29 : decode prog_14_method_1_code 29 = .ok (.aload_n 0, 1) := by decide +kernel
theorem d_Mo_init_30 : decode prog_14_method_1_code 30 = .ok (.bipush 100, 2) := by decide +kernel
theorem d_Mo_init_32 : decode prog_14_method_1_code 32 = .ok (.newarray .int, 2) := by decide +kernel
theorem d_Mo_init_34 : decode prog_14_method_1_code 34 = .ok (.putfield 19, 3) := by decide +kernel
theorem d_Mo_init_37 : decode prog_14_method_1_code 37 = .ok (.aload_n 0, 1) := by decide +kernel
theorem d_Mo_init_38 : decode prog_14_method_1_code 38 = .ok (.bipush 11, 2) := by decide +kernel
theorem d_Mo_init_40 : decode prog_14_method_1_code 40 = .ok (.newarray .int, 2) := by decide +kernel
theorem d_Mo_init_42 : decode prog_14_method_1_code 42 = .ok (.putfield 22, 3) := by decide +kernel
theorem d_Mo_init_45 : decode prog_14_method_1_code 45 = .ok (.aload_n 0, 1) := by decide +kernel
theorem d_Mo_init_46 : decode prog_14_method_1_code 46 = .ok (.bipush 11, 2) := by decide +kernel
theorem d_Mo_init_48 : decode prog_14_method_1_code 48 = .ok (.newarray .int, 2) := by decide +kernel
theorem d_Mo_init_50 : decode prog_14_method_1_code 50 = .ok (.putfield 25, 3) := by decide +kernel
theorem d_Mo_init_53 : decode prog_14_method_1_code 53 = .ok (.aload_n 0, 1) := by decide +kernel
theorem d_Mo_init_54 : decode prog_14_method_1_code 54 = .ok (.sipush 440, 3) := by decide +kernel
theorem d_Mo_init_57 : decode prog_14_method_1_code 57 = .ok (.newarray .int, 2) := by decide +kernel
theorem d_Mo_init_59 : decode prog_14_method_1_code 59 = .ok (.putfield 28, 3) := by decide +kernel
theorem d_Mo_init_62 : decode prog_14_method_1_code 62 = .ok (.aload_n 0, 1) := by decide +kernel
theorem d_Mo_init_63 : decode prog_14_method_1_code 63 = .ok (.sipush 440, 3) := by decide +kernel
theorem d_Mo_init_66 : decode prog_14_method_1_code 66 = .ok (.newarray .int, 2) := by decide +kernel
theorem d_Mo_init_68 : decode prog_14_method_1_code 68 = .ok (.putfield 31, 3) := by decide +kernel
theorem d_Mo_init_71 : decode prog_14_method_1_code 71 = .ok (.aload_n 0, 1) := by decide +kernel
theorem d_Mo_init_72 : decode prog_14_method_1_code 72 = .ok (.sipush 440, 3) := by decide +kernel
theorem d_Mo_init_75 : decode prog_14_method_1_code 75 = .ok (.newarray .int, 2) := by decide +kernel
theorem d_Mo_init_77 : decode prog_14_method_1_code 77 = .ok (.putfield 34, 3) := by decide +kernel
theorem d_Mo_init_80 : decode prog_14_method_1_code 80 = .ok (.aload_n 0, 1) := by decide +kernel
theorem d_Mo_init_81 : decode prog_14_method_1_code 81 = .ok (.sipush 440, 3) := by decide +kernel
theorem d_Mo_init_84 : decode prog_14_method_1_code 84 = .ok (.newarray .int, 2) := by decide +kernel
theorem d_Mo_init_86 : decode prog_14_method_1_code 86 = .ok (.putfield 37, 3) := by decide +kernel
theorem d_Mo_init_89 : decode prog_14_method_1_code 89 = .ok (.aload_n 0, 1) := by decide +kernel
theorem d_Mo_init_90 : decode prog_14_method_1_code 90 = .ok (.bipush 16, 2) := by decide +kernel
theorem d_Mo_init_92 : decode prog_14_method_1_code 92 = .ok (.newarray .int, 2) := by decide +kernel
theorem d_Mo_init_94 : decode prog_14_method_1_code 94 = .ok (.putfield 40, 3) := by decide +kernel
theorem d_Mo_init_97 : decode prog_14_method_1_code 97 = .ok (.aload_n 0, 1) := by decide +kernel
theorem d_Mo_init_98 : decode prog_14_method_1_code 98 = .ok (.bipush 40, 2) := by decide +kernel
theorem d_Mo_init_100 : decode prog_14_method_1_code 100 = .ok (.newarray .int, 2) := by decide +kernel
theorem d_Mo_init_102 : decode prog_14_method_1_code 102 = .ok (.putfield 43, 3) := by decide +kernel
theorem d_Mo_init_105 : decode prog_14_method_1_code 105 = .ok (.aload_n 0, 1) := by decide +kernel
theorem d_Mo_init_106 : decode prog_14_method_1_code 106 = .ok (.bipush 40, 2) := by decide +kernel
theorem d_Mo_init_108 : decode prog_14_method_1_code 108 = .ok (.newarray .int, 2) := by decide +kernel
theorem d_Mo_init_110 : decode prog_14_method_1_code 110 = .ok (.putfield 46, 3) := by decide +kernel
theorem d_Mo_init_113 : decode prog_14_method_1_code 113 = .ok (.aload_n 0, 1) := by decide +kernel
theorem d_Mo_init_114 : decode prog_14_method_1_code 114 = .ok (.bipush 20, 2) := by decide +kernel
theorem d_Mo_init_116 : decode prog_14_method_1_code 116 = .ok (.newarray .int, 2) := by decide +kernel
theorem d_Mo_init_118 : decode prog_14_method_1_code 118 = .ok (.putfield 49, 3) := by decide +kernel
theorem d_Mo_init_121 : decode prog_14_method_1_code 121 = .ok (.aload_n 0, 1) := by decide +kernel
theorem d_Mo_init_122 : decode prog_14_method_1_code 122 = .ok (.bipush 20, 2) := by decide +kernel
theorem d_Mo_init_124 : decode prog_14_method_1_code 124 = .ok (.newarray .boolean, 2) := by decide +kernel
theorem d_Mo_init_126 : decode prog_14_method_1_code 126 = .ok (.putfield 52, 3) := by decide +kernel
theorem d_Mo_init_129 : decode prog_14_method_1_code 129 = .ok (.aload_n 0, 1) := by decide +kernel
theorem d_Mo_init_130 : decode prog_14_method_1_code 130 = .ok (.sipush 650, 3) := by decide +kernel
theorem d_Mo_init_133 : decode prog_14_method_1_code 133 = .ok (.newarray .int, 2) := by decide +kernel
theorem d_Mo_init_135 : decode prog_14_method_1_code 135 = .ok (.putfield 56, 3) := by decide +kernel
theorem d_Mo_init_138 : decode prog_14_method_1_code 138 = .ok (.aload_n 0, 1) := by decide +kernel
theorem d_Mo_init_139 : decode prog_14_method_1_code 139 = .ok (.bipush 14, 2) := by decide +kernel
theorem d_Mo_init_141 : decode prog_14_method_1_code 141 = .ok (.newarray .int, 2) := by decide +kernel
theorem d_Mo_init_143 : decode prog_14_method_1_code 143 = .ok (.putfield 59, 3) := by decide +kernel
theorem d_Mo_init_146 : decode prog_14_method_1_code 146 = .ok (.aload_n 0, 1) := by decide +kernel
theorem d_Mo_init_147 : decode prog_14_method_1_code 147 = .ok (.sipush 6006, 3) := by decide +kernel
theorem d_Mo_init_150 : decode prog_14_method_1_code 150 = .ok (.newarray .int, 2) := by decide +kernel
theorem d_Mo_init_152 : decode prog_14_method_1_code 152 = .ok (.putfield 62, 3) := by decide +kernel
theorem d_Mo_init_155 : decode prog_14_method_1_code 155 = .ok (.aload_n 0, 1) := by decide +kernel
theorem d_Mo_init_156 : decode prog_14_method_1_code 156 = .ok (.bipush 64, 2) := by decide +kernel
theorem d_Mo_init_158 : decode prog_14_method_1_code 158 = .ok (.newarray .int, 2) := by decide +kernel
theorem d_Mo_init_160 : decode prog_14_method_1_code 160 = .ok (.putfield 65, 3) := by decide +kernel
theorem d_Mo_init_163 : decode prog_14_method_1_code 163 = .ok (.aload_n 0, 1) := by decide +kernel
theorem d_Mo_init_164 : decode prog_14_method_1_code 164 = .ok (.bipush 8, 2) := by decide +kernel
theorem d_Mo_init_166 : decode prog_14_method_1_code 166 = .ok (.newarray .boolean, 2) := by decide +kernel
theorem d_Mo_init_168 : decode prog_14_method_1_code 168 = .ok (.putfield 68, 3) := by decide +kernel
theorem d_Mo_init_171 : decode prog_14_method_1_code 171 = .ok (.aload_n 0, 1) := by decide +kernel
theorem d_Mo_init_172 : decode prog_14_method_1_code 172 = .ok (.bipush 6, 2) := by decide +kernel
theorem d_Mo_init_174 : decode prog_14_method_1_code 174 = .ok (.newarray .int, 2) := by decide +kernel
theorem d_Mo_init_176 : decode prog_14_method_1_code 176 = .ok (.putfield 71, 3) := by decide +kernel
theorem d_Mo_init_179 : decode prog_14_method_1_code 179 = .ok (.aload_n 0, 1) := by decide +kernel
theorem d_Mo_init_180 : decode prog_14_method_1_code 180 = .ok (.bipush 9, 2) := by decide +kernel
theorem d_Mo_init_182 : decode prog_14_method_1_code 182 = .ok (.newarray .int, 2) := by decide +kernel
theorem d_Mo_init_184 : decode prog_14_method_1_code 184 = .ok (.putfield 74, 3) := by decide +kernel
theorem d_Mo_init_187 : decode prog_14_method_1_code 187 = .ok (.aload_n 0, 1) := by decide +kernel
theorem d_Mo_init_188 : decode prog_14_method_1_code 188 = .ok (.bipush 14, 2) := by decide +kernel
theorem d_Mo_init_190 : decode prog_14_method_1_code 190 = .ok (.newarray .int, 2) := by decide +kernel
theorem d_Mo_init_192 : decode prog_14_method_1_code 192 = .ok (.putfield 77, 3) := by decide +kernel
theorem d_Mo_init_195 : decode prog_14_method_1_code 195 = .ok (.aload_n 0, 1) := by decide +kernel
theorem d_Mo_init_196 : decode prog_14_method_1_code 196 = .ok (.sipush 1764, 3) := by decide +kernel
theorem d_Mo_init_199 : decode prog_14_method_1_code 199 = .ok (.newarray .boolean, 2) := by decide +kernel
theorem d_Mo_init_201 : decode prog_14_method_1_code 201 = .ok (.putfield 80, 3) := by decide +kernel
theorem d_Mo_init_204 : decode prog_14_method_1_code 204 = .ok (.aload_n 0, 1) := by decide +kernel
theorem d_Mo_init_205 : decode prog_14_method_1_code 205 = .ok (.bipush 42, 2) := by decide +kernel
theorem d_Mo_init_207 : decode prog_14_method_1_code 207 = .ok (.newarray .int, 2) := by decide +kernel
theorem d_Mo_init_209 : decode prog_14_method_1_code 209 = .ok (.putfield 83, 3) := by decide +kernel
theorem d_Mo_init_212 : decode prog_14_method_1_code 212 = .ok (.aload_n 0, 1) := by decide +kernel
theorem d_Mo_init_213 : decode prog_14_method_1_code 213 = .ok (.bipush 42, 2) := by decide +kernel
theorem d_Mo_init_215 : decode prog_14_method_1_code 215 = .ok (.newarray .int, 2) := by decide +kernel
theorem d_Mo_init_217 : decode prog_14_method_1_code 217 = .ok (.putfield 86, 3) := by decide +kernel
theorem d_Mo_init_220 : decode prog_14_method_1_code 220 = .ok (.aload_n 0, 1) := by decide +kernel
theorem d_Mo_init_221 : decode prog_14_method_1_code 221 = .ok (.sipush 1764, 3) := by decide +kernel
theorem d_Mo_init_224 : decode prog_14_method_1_code 224 = .ok (.newarray .int, 2) := by decide +kernel
theorem d_Mo_init_226 : decode prog_14_method_1_code 226 = .ok (.putfield 89, 3) := by decide +kernel
theorem d_Mo_init_229 : decode prog_14_method_1_code 229 = .ok (.aload_n 0, 1) := by decide +kernel
theorem d_Mo_init_230 : decode prog_14_method_1_code 230 = .ok (.bipush 8, 2) := by decide +kernel
theorem d_Mo_init_232 : decode prog_14_method_1_code 232 = .ok (.newarray .int, 2) := by decide +kernel
theorem d_Mo_init_234 : decode prog_14_method_1_code 234 = .ok (.putfield 92, 3) := by decide +kernel
theorem d_Mo_init_237 : decode prog_14_method_1_code 237 = .ok (.return_, 1) := by decide +kernel
theorem d_Mo_sheet_0 : decode prog_14_method_6_code 0 = .ok (.iload_n 1, 1) := by decide +kernel
theorem d_Mo_sheet_1 : decode prog_14_method_6_code 1 = .ok (.invokestatic 106, 3) := by decide +kernel
theorem d_Mo_sheet_4 : decode prog_14_method_6_code 4 = .ok (.ifCond .eq 21, 3) := by decide +kernel
theorem d_Mo_sheet_7 : decode prog_14_method_6_code 7 = .ok (.iload_n 2, 1) := by decide +kernel
theorem d_Mo_sheet_8 : decode prog_14_method_6_code 8 = .ok (.i2l, 1) := by decide +kernel
theorem d_Mo_sheet_9 : decode prog_14_method_6_code 9 = .ok (.lconst 0, 1) := by decide +kernel
theorem d_Mo_sheet_10 : decode prog_14_method_6_code 10 = .ok (.ldc2_w 110, 3) := by decide +kernel
theorem d_Mo_sheet_13 : decode prog_14_method_6_code 13 = .ok (.invokestatic 102, 3) := by decide +kernel
theorem d_Mo_sheet_16 : decode prog_14_method_6_code 16 = .ok (.ifCond .eq 9, 3) := by decide +kernel
theorem d_Mo_sheet_19 : decode prog_14_method_6_code 19 = .ok (.iload_n 3, 1) := by decide +kernel
theorem d_Mo_sheet_20 : decode prog_14_method_6_code 20 = .ok (.bipush 100, 2) := by decide +kernel
theorem d_Mo_sheet_22 : decode prog_14_method_6_code 22 = .ok (.if_icmp .le 6, 3) := by decide +kernel
theorem d_Mo_sheet_25 : decode prog_14_method_6_code 25 = .ok (.ldc 112, 2) := by decide +kernel
theorem d_Mo_sheet_27 : decode prog_14_method_6_code 27 = .ok (.ireturn, 1) := by decide +kernel
theorem d_Mo_sheet_28 : decode prog_14_method_6_code 28 = .ok (.iload_n 3, 1) := by decide +kernel
theorem d_Mo_sheet_29 : decode prog_14_method_6_code 29 = .ok (.ifCond .ge 9, 3) := by decide +kernel
theorem d_Mo_sheet_32 : decode prog_14_method_6_code 32 = .ok (.aload_n 0, 1) := by decide +kernel
theorem d_Mo_sheet_33 : decode prog_14_method_6_code 33 = .ok (.iconst 4, 1) := by decide +kernel
theorem d_Mo_sheet_34 : decode prog_14_method_6_code 34 = .ok (.invokevirtual 113, 3) := by decide +kernel
theorem d_Mo_sheet_37 : decode prog_14_method_6_code 37 = .ok (.ireturn, 1) := by decide +kernel
theorem d_Mo_sheet_38 : decode prog_14_method_6_code 38 = .ok (.aload_n 0, 1) := by decide +kernel
theorem d_Mo_sheet_39 : decode prog_14_method_6_code 39 = .ok (.getfield 7, 3) := by decide +kernel
theorem d_Mo_sheet_42 : decode prog_14_method_6_code 42 = .ok (.iload_n 1, 1) := by decide +kernel
theorem d_Mo_sheet_43 : decode prog_14_method_6_code 43 = .ok (.iload_n 2, 1) := by decide +kernel
theorem d_Mo_sheet_44 : decode prog_14_method_6_code 44 = .ok (.iconst 1, 1) := by decide +kernel
theorem d_Mo_sheet_45 : decode prog_14_method_6_code 45 = .ok (.iadd, 1) := by decide +kernel
theorem d_Mo_sheet_46 : decode prog_14_method_6_code 46 = .ok (.iastore, 1) := by decide +kernel
theorem d_Mo_sheet_47 : decode prog_14_method_6_code 47 = .ok (.aload_n 0, 1) := by decide +kernel
theorem d_Mo_sheet_48 : decode prog_14_method_6_code 48 = .ok (.getfield 13, 3) := by decide +kernel
theorem d_Mo_sheet_51 : decode prog_14_method_6_code 51 = .ok (.iload_n 1, 1) := by decide +kernel
theorem d_Mo_sheet_52 : decode prog_14_method_6_code 52 = .ok (.iload_n 3, 1) := by decide +kernel
theorem d_Mo_sheet_53 : decode prog_14_method_6_code 53 = .ok (.iastore, 1) := by decide +kernel
theorem d_Mo_sheet_54 : decode prog_14_method_6_code 54 = .ok (.iconst 0, 1) := by decide +kernel
theorem d_Mo_sheet_55 : decode prog_14_method_6_code 55 = .ok (.istore 4, 2) := by decide +kernel
theorem d_Mo_sheet_57 : decode prog_14_method_6_code 57 = .ok (.iload 4, 2) := by decide +kernel
theorem d_Mo_sheet_59 : decode prog_14_method_6_code 59 = .ok (.iload_n 3, 1) := by decide +kernel
theorem d_Mo_sheet_60 : decode prog_14_method_6_code 60 = .ok (.if_icmp .ge 22, 3) := by decide +kernel
theorem d_Mo_sheet_63 : decode prog_14_method_6_code 63 = .ok (.aload_n 0, 1) := by decide +kernel
theorem d_Mo_sheet_64 : decode prog_14_method_6_code 64 = .ok (.getfield 16, 3) := by decide +kernel
theorem d_Mo_sheet_67 : decode prog_14_method_6_code 67 = .ok (.bipush 100, 2) := by decide +kernel
theorem d_Mo_sheet_69 : decode prog_14_method_6_code 69 = .ok (.iload_n 1, 1) := by decide +kernel
theorem d_Mo_sheet_70 : decode prog_14_method_6_code 70 = .ok (.imul, 1) := by decide +kernel
theorem d_Mo_sheet_71 : decode prog_14_method_6_code 71 = .ok (.iload 4, 2) := by decide +kernel
theorem d_Mo_sheet_73 : decode prog_14_method_6_code 73 = .ok (.iadd, 1) := by decide +kernel
theorem d_Mo_sheet_74 : decode prog_14_method_6_code 74 = .ok (.iconst 0, 1) := by decide +kernel
theorem d_Mo_sheet_75 : decode prog_14_method_6_code 75 = .ok (.iastore, 1) := by decide +kernel
theorem d_Mo_sheet_76 : decode prog_14_method_6_code 76 = .ok (.iinc 4 1, 3) := by decide +kernel
theorem d_Mo_sheet_79 : decode prog_14_method_6_code 79 = .ok (.goto (-22), 3) := by decide +kernel
theorem d_Mo_sheet_82 : decode prog_14_method_6_code 82 = .ok (.aload_n 0, 1) := by decide +kernel
theorem d_Mo_sheet_83 : decode prog_14_method_6_code 83 = .ok (.iload_n 3, 1) := by decide +kernel
theorem d_Mo_sheet_84 : decode prog_14_method_6_code 84 = .ok (.invokevirtual 117, 3) := by decide +kernel
theorem d_Mo_sheet_87 : decode prog_14_method_6_code 87 = .ok (.ireturn, 1) := by decide +kernel
theorem d_Mo_isSheet_0 : decode prog_14_method_5_code 0 = .ok (.iload_n 0, 1) := by decide +kernel
theorem d_Mo_isSheet_1 : decode prog_14_method_5_code 1 = .ok (.i2l, 1) := by decide +kernel
theorem d_Mo_isSheet_2 : decode prog_14_method_5_code 2 = .ok (.lconst 0, 1) := by decide +kernel
theorem d_Mo_isSheet_3 : decode prog_14_method_5_code 3 = .ok (.ldc2_w 100, 3) := by decide +kernel
theorem d_Mo_isSheet_6 : decode prog_14_method_5_code 6 = .ok (.invokestatic 102, 3) := by decide +kernel
theorem d_Mo_isSheet_9 : decode prog_14_method_5_code 9 = .ok (.ireturn, 1) := by decide +kernel
theorem d_Mo_in_0 : decode prog_14_method_2_code 0 = .ok (.lload_n 0, 1) := by decide +kernel
theorem d_Mo_in_1 : decode prog_14_method_2_code 1 = .ok (.lload_n 2, 1) := by decide +kernel
theorem d_Mo_in_2 : decode prog_14_method_2_code 2 = .ok (.lcmp, 1) := by decide +kernel
theorem d_Mo_in_3 : decode prog_14_method_2_code 3 = .ok (.ifCond .lt 14, 3) := by decide +kernel
theorem d_Mo_in_6 : decode prog_14_method_2_code 6 = .ok (.lload_n 0, 1) := by decide +kernel
theorem d_Mo_in_7 : decode prog_14_method_2_code 7 = .ok (.lload 4, 2) := by decide +kernel
theorem d_Mo_in_9 : decode prog_14_method_2_code 9 = .ok (.lcmp, 1) := by decide +kernel
theorem d_Mo_in_10 : decode prog_14_method_2_code 10 = .ok (.ifCond .gt 7, 3) := by decide +kernel
theorem d_Mo_in_13 : decode prog_14_method_2_code 13 = .ok (.iconst 1, 1) := by decide +kernel
theorem d_Mo_in_14 : decode prog_14_method_2_code 14 = .ok (.goto 4, 3) := by decide +kernel
theorem d_Mo_in_17 : decode prog_14_method_2_code 17 = .ok (.iconst 0, 1) := by decide +kernel
theorem d_Mo_in_18 : decode prog_14_method_2_code 18 = .ok (.ireturn, 1) := by decide +kernel
theorem d_Mo_finds_0 : decode prog_14_method_3_code 0 = .ok (.aload_n 0, 1) := by decide +kernel
theorem d_Mo_finds_1 : decode prog_14_method_3_code 1 = .ok (.iload_n 1, 1) := by decide +kernel
theorem d_Mo_finds_2 : decode prog_14_method_3_code 2 = .ok (.putfield 95, 3) := by decide +kernel
theorem d_Mo_finds_5 : decode prog_14_method_3_code 5 = .ok (.ldc 99, 2) := by decide +kernel
theorem d_Mo_finds_7 : decode prog_14_method_3_code 7 = .ok (.iload_n 1, 1) := by decide +kernel
theorem d_Mo_finds_8 : decode prog_14_method_3_code 8 = .ok (.isub, 1) := by decide +kernel
theorem d_Mo_finds_9 : decode prog_14_method_3_code 9 = .ok (.ireturn, 1) := by decide +kernel
theorem d_Mo_well_0 : decode prog_14_method_4_code 0 = .ok (.aload_n 0, 1) := by decide +kernel
theorem d_Mo_well_1 : decode prog_14_method_4_code 1 = .ok (.iconst 0, 1) := by decide +kernel
theorem d_Mo_well_2 : decode prog_14_method_4_code 2 = .ok (.putfield 95, 3) := by decide +kernel
theorem d_Mo_well_5 : decode prog_14_method_4_code 5 = .ok (.iload_n 1, 1) := by decide +kernel
theorem d_Mo_well_6 : decode prog_14_method_4_code 6 = .ok (.ireturn, 1) := by decide +kernel
theorem d_Mo_set_0 : decode prog_14_method_7_code 0 = .ok (.iload_n 1, 1) := by decide +kernel
theorem d_Mo_set_1 : decode prog_14_method_7_code 1 = .ok (.invokestatic 106, 3) := by decide +kernel
theorem d_Mo_set_4 : decode prog_14_method_7_code 4 = .ok (.ifCond .ne 6, 3) := by decide +kernel
theorem d_Mo_set_7 : decode prog_14_method_7_code 7 = .ok (.ldc 112, 2) := by decide +kernel
theorem d_Mo_set_9 : decode prog_14_method_7_code 9 = .ok (.ireturn, 1) := by decide +kernel
theorem d_Mo_set_10 : decode prog_14_method_7_code 10 = .ok (.aload_n 0, 1) := by decide +kernel
theorem d_Mo_set_11 : decode prog_14_method_7_code 11 = .ok (.getfield 7, 3) := by decide +kernel
theorem d_Mo_set_14 : decode prog_14_method_7_code 14 = .ok (.iload_n 1, 1) := by decide +kernel
theorem d_Mo_set_15 : decode prog_14_method_7_code 15 = .ok (.iaload, 1) := by decide +kernel
theorem d_Mo_set_16 : decode prog_14_method_7_code 16 = .ok (.ifCond .ne 9, 3) := by decide +kernel
theorem d_Mo_set_19 : decode prog_14_method_7_code 19 = .ok (.aload_n 0, 1) := by decide +kernel
theorem d_Mo_set_20 : decode prog_14_method_7_code 20 = .ok (.iconst 1, 1) := by decide +kernel
theorem d_Mo_set_21 : decode prog_14_method_7_code 21 = .ok (.invokevirtual 113, 3) := by decide +kernel
theorem d_Mo_set_24 : decode prog_14_method_7_code 24 = .ok (.ireturn, 1) := by decide +kernel
theorem d_Mo_set_25 : decode prog_14_method_7_code 25 = .ok (.iload_n 2, 1) := by decide +kernel
theorem d_Mo_set_26 : decode prog_14_method_7_code 26 = .ok (.i2l, 1) := by decide +kernel
theorem d_Mo_set_27 : decode prog_14_method_7_code 27 = .ok (.lconst 0, 1) := by decide +kernel
theorem d_Mo_set_28 : decode prog_14_method_7_code 28 = .ok (.aload_n 0, 1) := by decide +kernel
theorem d_Mo_set_29 : decode prog_14_method_7_code 29 = .ok (.getfield 13, 3) := by decide +kernel
theorem d_Mo_set_32 : decode prog_14_method_7_code 32 = .ok (.iload_n 1, 1) := by decide +kernel
theorem d_Mo_set_33 : decode prog_14_method_7_code 33 = .ok (.iaload, 1) := by decide +kernel
theorem d_Mo_set_34 : decode prog_14_method_7_code 34 = .ok (.iconst 1, 1) := by decide +kernel
theorem d_Mo_set_35 : decode prog_14_method_7_code 35 = .ok (.isub, 1) := by decide +kernel
theorem d_Mo_set_36 : decode prog_14_method_7_code 36 = .ok (.i2l, 1) := by decide +kernel
theorem d_Mo_set_37 : decode prog_14_method_7_code 37 = .ok (.invokestatic 102, 3) := by decide +kernel
theorem d_Mo_set_40 : decode prog_14_method_7_code 40 = .ok (.ifCond .ne 9, 3) := by decide +kernel
theorem d_Mo_set_43 : decode prog_14_method_7_code 43 = .ok (.aload_n 0, 1) := by decide +kernel
theorem d_Mo_set_44 : decode prog_14_method_7_code 44 = .ok (.iconst 2, 1) := by decide +kernel
theorem d_Mo_set_45 : decode prog_14_method_7_code 45 = .ok (.invokevirtual 113, 3) := by decide +kernel
theorem d_Mo_set_48 : decode prog_14_method_7_code 48 = .ok (.ireturn, 1) := by decide +kernel
theorem d_Mo_set_49 : decode prog_14_method_7_code 49 = .ok (.aload_n 0, 1) := by decide +kernel
theorem d_Mo_set_50 : decode prog_14_method_7_code 50 = .ok (.getfield 7, 3) := by decide +kernel
theorem d_Mo_set_53 : decode prog_14_method_7_code 53 = .ok (.iload_n 1, 1) := by decide +kernel
theorem d_Mo_set_54 : decode prog_14_method_7_code 54 = .ok (.iaload, 1) := by decide +kernel
theorem d_Mo_set_55 : decode prog_14_method_7_code 55 = .ok (.iconst 1, 1) := by decide +kernel
theorem d_Mo_set_56 : decode prog_14_method_7_code 56 = .ok (.if_icmp .ne 8, 3) := by decide +kernel
theorem d_Mo_set_59 : decode prog_14_method_7_code 59 = .ok (.iload_n 3, 1) := by decide +kernel
theorem d_Mo_set_60 : decode prog_14_method_7_code 60 = .ok (.i2b, 1) := by decide +kernel
theorem d_Mo_set_61 : decode prog_14_method_7_code 61 = .ok (.goto 19, 3) := by decide +kernel
theorem d_Mo_set_64 : decode prog_14_method_7_code 64 = .ok (.aload_n 0, 1) := by decide +kernel
theorem d_Mo_set_65 : decode prog_14_method_7_code 65 = .ok (.getfield 7, 3) := by decide +kernel
theorem d_Mo_set_68 : decode prog_14_method_7_code 68 = .ok (.iload_n 1, 1) := by decide +kernel
theorem d_Mo_set_69 : decode prog_14_method_7_code 69 = .ok (.iaload, 1) := by decide +kernel
theorem d_Mo_set_70 : decode prog_14_method_7_code 70 = .ok (.iconst 2, 1) := by decide +kernel
theorem d_Mo_set_71 : decode prog_14_method_7_code 71 = .ok (.if_icmp .ne 8, 3) := by decide +kernel
theorem d_Mo_set_74 : decode prog_14_method_7_code 74 = .ok (.iload_n 3, 1) := by decide +kernel
theorem d_Mo_set_75 : decode prog_14_method_7_code 75 = .ok (.i2s, 1) := by decide +kernel
theorem d_Mo_set_76 : decode prog_14_method_7_code 76 = .ok (.goto 4, 3) := by decide +kernel
theorem d_Mo_set_79 : decode prog_14_method_7_code 79 = .ok (.iload_n 3, 1) := by decide +kernel
theorem d_Mo_set_80 : decode prog_14_method_7_code 80 = .ok (.istore 4, 2) := by decide +kernel
theorem d_Mo_set_82 : decode prog_14_method_7_code 82 = .ok (.aload_n 0, 1) := by decide +kernel
theorem d_Mo_set_83 : decode prog_14_method_7_code 83 = .ok (.getfield 16, 3) := by decide +kernel
theorem d_Mo_set_86 : decode prog_14_method_7_code 86 = .ok (.bipush 100, 2) := by decide +kernel
theorem d_Mo_set_88 : decode prog_14_method_7_code 88 = .ok (.iload_n 1, 1) := by decide +kernel
theorem d_Mo_set_89 : decode prog_14_method_7_code 89 = .ok (.imul, 1) := by decide +kernel
theorem d_Mo_set_90 : decode prog_14_method_7_code 90 = .ok (.iload_n 2, 1) := by decide +kernel
theorem d_Mo_set_91 : decode prog_14_method_7_code 91 = .ok (.iadd, 1) := by decide +kernel
theorem d_Mo_set_92 : decode prog_14_method_7_code 92 = .ok (.iload 4, 2) := by decide +kernel
theorem d_Mo_set_94 : decode prog_14_method_7_code 94 = .ok (.iastore, 1) := by decide +kernel
theorem d_Mo_set_95 : decode prog_14_method_7_code 95 = .ok (.aload_n 0, 1) := by decide +kernel
theorem d_Mo_set_96 : decode prog_14_method_7_code 96 = .ok (.iload 4, 2) := by decide +kernel
theorem d_Mo_set_98 : decode prog_14_method_7_code 98 = .ok (.invokevirtual 117, 3) := by decide +kernel
theorem d_Mo_set_101 : decode prog_14_method_7_code 101 = .ok (.ireturn, 1) := by decide +kernel
theorem d_Mo_copy_0 : decode prog_14_method_8_code 0 = .ok (.iload_n 1, 1) := by decide +kernel
theorem d_Mo_copy_1 : decode prog_14_method_8_code 1 = .ok (.invokestatic 106, 3) := by decide +kernel
theorem d_Mo_copy_4 : decode prog_14_method_8_code 4 = .ok (.ifCond .eq 10, 3) := by decide +kernel
theorem d_Mo_copy_7 : decode prog_14_method_8_code 7 = .ok (.iload_n 3, 1) := by decide +kernel
theorem d_Mo_copy_8 : decode prog_14_method_8_code 8 = .ok (.invokestatic 106, 3) := by decide +kernel
theorem d_Mo_copy_11 : decode prog_14_method_8_code 11 = .ok (.ifCond .ne 6, 3) := by decide +kernel
theorem d_Mo_copy_14 : decode prog_14_method_8_code 14 = .ok (.ldc 112, 2) := by decide +kernel
theorem d_Mo_copy_16 : decode prog_14_method_8_code 16 = .ok (.ireturn, 1) := by decide +kernel
theorem d_Mo_copy_17 : decode prog_14_method_8_code 17 = .ok (.aload_n 0, 1) := by decide +kernel
theorem d_Mo_copy_18 : decode prog_14_method_8_code 18 = .ok (.getfield 7, 3) := by decide +kernel
theorem d_Mo_copy_21 : decode prog_14_method_8_code 21 = .ok (.iload_n 1, 1) := by decide +kernel
theorem d_Mo_copy_22 : decode prog_14_method_8_code 22 = .ok (.iaload, 1) := by decide +kernel
theorem d_Mo_copy_23 : decode prog_14_method_8_code 23 = .ok (.ifCond .eq 12, 3) := by decide +kernel
theorem d_Mo_copy_26 : decode prog_14_method_8_code 26 = .ok (.aload_n 0, 1) := by decide +kernel
theorem d_Mo_copy_27 : decode prog_14_method_8_code 27 = .ok (.getfield 7, 3) := by decide +kernel
theorem d_Mo_copy_30 : decode prog_14_method_8_code 30 = .ok (.iload_n 3, 1) := by decide +kernel
theorem d_Mo_copy_31 : decode prog_14_method_8_code 31 = .ok (.iaload, 1) := by decide +kernel
theorem d_Mo_copy_32 : decode prog_14_method_8_code 32 = .ok (.ifCond .ne 9, 3) := by decide +kernel
theorem d_Mo_copy_35 : decode prog_14_method_8_code 35 = .ok (.aload_n 0, 1) := by decide +kernel
theorem d_Mo_copy_36 : decode prog_14_method_8_code 36 = .ok (.iconst 1, 1) := by decide +kernel
theorem d_Mo_copy_37 : decode prog_14_method_8_code 37 = .ok (.invokevirtual 113, 3) := by decide +kernel
theorem d_Mo_copy_40 : decode prog_14_method_8_code 40 = .ok (.ireturn, 1) := by decide +kernel
theorem d_Mo_copy_41 : decode prog_14_method_8_code 41 = .ok (.aload_n 0, 1) := by decide +kernel
theorem d_Mo_copy_42 : decode prog_14_method_8_code 42 = .ok (.getfield 7, 3) := by decide +kernel
theorem d_Mo_copy_45 : decode prog_14_method_8_code 45 = .ok (.iload_n 1, 1) := by decide +kernel
theorem d_Mo_copy_46 : decode prog_14_method_8_code 46 = .ok (.iaload, 1) := by decide +kernel
theorem d_Mo_copy_47 : decode prog_14_method_8_code 47 = .ok (.aload_n 0, 1) := by decide +kernel
theorem d_Mo_copy_48 : decode prog_14_method_8_code 48 = .ok (.getfield 7, 3) := by decide +kernel
theorem d_Mo_copy_51 : decode prog_14_method_8_code 51 = .ok (.iload_n 3, 1) := by decide +kernel
theorem d_Mo_copy_52 : decode prog_14_method_8_code 52 = .ok (.iaload, 1) := by decide +kernel
theorem d_Mo_copy_53 : decode prog_14_method_8_code 53 = .ok (.if_icmp .eq 9, 3) := by decide +kernel
theorem d_Mo_copy_56 : decode prog_14_method_8_code 56 = .ok (.aload_n 0, 1) := by decide +kernel
theorem d_Mo_copy_57 : decode prog_14_method_8_code 57 = .ok (.iconst 5, 1) := by decide +kernel
theorem d_Mo_copy_58 : decode prog_14_method_8_code 58 = .ok (.invokevirtual 113, 3) := by decide +kernel
theorem d_Mo_copy_61 : decode prog_14_method_8_code 61 = .ok (.ireturn, 1) := by decide +kernel
theorem d_Mo_copy_62 : decode prog_14_method_8_code 62 = .ok (.iload_n 2, 1) := by decide +kernel
theorem d_Mo_copy_63 : decode prog_14_method_8_code 63 = .ok (.ifCond .lt 48, 3) := by decide +kernel
theorem d_Mo_copy_66 : decode prog_14_method_8_code 66 = .ok (.iload 4, 2) := by decide +kernel
theorem d_Mo_copy_68 : decode prog_14_method_8_code 68 = .ok (.ifCond .lt 43, 3) := by decide +kernel
theorem d_Mo_copy_71 : decode prog_14_method_8_code 71 = .ok (.iload 5, 2) := by decide +kernel
theorem d_Mo_copy_73 : decode prog_14_method_8_code 73 = .ok (.ifCond .lt 38, 3) := by decide +kernel
theorem d_Mo_copy_76 : decode prog_14_method_8_code 76 = .ok (.iload_n 2, 1) := by decide +kernel
theorem d_Mo_copy_77 : decode prog_14_method_8_code 77 = .ok (.i2l, 1) := by decide +kernel
theorem d_Mo_copy_78 : decode prog_14_method_8_code 78 = .ok (.iload 5, 2) := by decide +kernel
theorem d_Mo_copy_80 : decode prog_14_method_8_code 80 = .ok (.i2l, 1) := by decide +kernel
theorem d_Mo_copy_81 : decode prog_14_method_8_code 81 = .ok (.ladd, 1) := by decide +kernel
theorem d_Mo_copy_82 : decode prog_14_method_8_code 82 = .ok (.aload_n 0, 1) := by decide +kernel
theorem d_Mo_copy_83 : decode prog_14_method_8_code 83 = .ok (.getfield 13, 3) := by decide +kernel
theorem d_Mo_copy_86 : decode prog_14_method_8_code 86 = .ok (.iload_n 1, 1) := by decide +kernel
theorem d_Mo_copy_87 : decode prog_14_method_8_code 87 = .ok (.iaload, 1) := by decide +kernel
theorem d_Mo_copy_88 : decode prog_14_method_8_code 88 = .ok (.i2l, 1) := by decide +kernel
theorem d_Mo_copy_89 : decode prog_14_method_8_code 89 = .ok (.lcmp, 1) := by decide +kernel
theorem d_Mo_copy_90 : decode prog_14_method_8_code 90 = .ok (.ifCond .gt 21, 3) := by decide +kernel
theorem d_Mo_copy_93 : decode prog_14_method_8_code 93 = .ok (.iload 4, 2) := by decide +kernel
theorem d_Mo_copy_95 : decode prog_14_method_8_code 95 = .ok (.i2l, 1) := by decide +kernel
theorem d_Mo_copy_96 : decode prog_14_method_8_code 96 = .ok (.iload 5, 2) := by decide +kernel
theorem d_Mo_copy_98 : decode prog_14_method_8_code 98 = .ok (.i2l, 1) := by decide +kernel
theorem d_Mo_copy_99 : decode prog_14_method_8_code 99 = .ok (.ladd, 1) := by decide +kernel
theorem d_Mo_copy_100 : decode prog_14_method_8_code 100 = .ok (.aload_n 0, 1) := by decide +kernel
theorem d_Mo_copy_101 : decode prog_14_method_8_code 101 = .ok (.getfield 13, 3) := by decide +kernel
theorem d_Mo_copy_104 : decode prog_14_method_8_code 104 = .ok (.iload_n 3, 1) := by decide +kernel
theorem d_Mo_copy_105 : decode prog_14_method_8_code 105 = .ok (.iaload, 1) := by decide +kernel
theorem d_Mo_copy_106 : decode prog_14_method_8_code 106 = .ok (.i2l, 1) := by decide +kernel
theorem d_Mo_copy_107 : decode prog_14_method_8_code 107 = .ok (.lcmp, 1) := by decide +kernel
theorem d_Mo_copy_108 : decode prog_14_method_8_code 108 = .ok (.ifCond .le 9, 3) := by decide +kernel
theorem d_Mo_copy_111 : decode prog_14_method_8_code 111 = .ok (.aload_n 0, 1) := by decide +kernel
theorem d_Mo_copy_112 : decode prog_14_method_8_code 112 = .ok (.iconst 2, 1) := by decide +kernel
theorem d_Mo_copy_113 : decode prog_14_method_8_code 113 = .ok (.invokevirtual 113, 3) := by decide +kernel
theorem d_Mo_copy_116 : decode prog_14_method_8_code 116 = .ok (.ireturn, 1) := by decide +kernel
theorem d_Mo_copy_117 : decode prog_14_method_8_code 117 = .ok (.iconst 0, 1) := by decide +kernel
theorem d_Mo_copy_118 : decode prog_14_method_8_code 118 = .ok (.istore 6, 2) := by decide +kernel
theorem d_Mo_copy_120 : decode prog_14_method_8_code 120 = .ok (.iload 6, 2) := by decide +kernel
theorem d_Mo_copy_122 : decode prog_14_method_8_code 122 = .ok (.iload 5, 2) := by decide +kernel
theorem d_Mo_copy_124 : decode prog_14_method_8_code 124 = .ok (.if_icmp .ge 30, 3) := by decide +kernel
theorem d_Mo_copy_127 : decode prog_14_method_8_code 127 = .ok (.aload_n 0, 1) := by decide +kernel
theorem d_Mo_copy_128 : decode prog_14_method_8_code 128 = .ok (.getfield 19, 3) := by decide +kernel
theorem d_Mo_copy_131 : decode prog_14_method_8_code 131 = .ok (.iload 6, 2) := by decide +kernel
theorem d_Mo_copy_133 : decode prog_14_method_8_code 133 = .ok (.aload_n 0, 1) := by decide +kernel
theorem d_Mo_copy_134 : decode prog_14_method_8_code 134 = .ok (.getfield 16, 3) := by decide +kernel
theorem d_Mo_copy_137 : decode prog_14_method_8_code 137 = .ok (.bipush 100, 2) := by decide +kernel
theorem d_Mo_copy_139 : decode prog_14_method_8_code 139 = .ok (.iload_n 1, 1) := by decide +kernel
theorem d_Mo_copy_140 : decode prog_14_method_8_code 140 = .ok (.imul, 1) := by decide +kernel
theorem d_Mo_copy_141 : decode prog_14_method_8_code 141 = .ok (.iload_n 2, 1) := by decide +kernel
theorem d_Mo_copy_142 : decode prog_14_method_8_code 142 = .ok (.iadd, 1) := by decide +kernel
theorem d_Mo_copy_143 : decode prog_14_method_8_code 143 = .ok (.iload 6, 2) := by decide +kernel
theorem d_Mo_copy_145 : decode prog_14_method_8_code 145 = .ok (.iadd, 1) := by decide +kernel
theorem d_Mo_copy_146 : decode prog_14_method_8_code 146 = .ok (.iaload, 1) := by decide +kernel
theorem d_Mo_copy_147 : decode prog_14_method_8_code 147 = .ok (.iastore, 1) := by decide +kernel
theorem d_Mo_copy_148 : decode prog_14_method_8_code 148 = .ok (.iinc 6 1, 3) := by decide +kernel
theorem d_Mo_copy_151 : decode prog_14_method_8_code 151 = .ok (.goto (-31), 3) := by decide +kernel
theorem d_Mo_copy_154 : decode prog_14_method_8_code 154 = .ok (.iconst 0, 1) := by decide +kernel
theorem d_Mo_copy_155 : decode prog_14_method_8_code 155 = .ok (.istore 6, 2) := by decide +kernel
theorem d_Mo_copy_157 : decode prog_14_method_8_code 157 = .ok (.iload 6, 2) := by decide +kernel
theorem d_Mo_copy_159 : decode prog_14_method_8_code 159 = .ok (.iload 5, 2) := by decide +kernel
theorem d_Mo_copy_161 : decode prog_14_method_8_code 161 = .ok (.if_icmp .ge 31, 3) := by decide +kernel
theorem d_Mo_copy_164 : decode prog_14_method_8_code 164 = .ok (.aload_n 0, 1) := by decide +kernel
theorem d_Mo_copy_165 : decode prog_14_method_8_code 165 = .ok (.getfield 16, 3) := by decide +kernel
theorem d_Mo_copy_168 : decode prog_14_method_8_code 168 = .ok (.bipush 100, 2) := by decide +kernel
theorem d_Mo_copy_170 : decode prog_14_method_8_code 170 = .ok (.iload_n 3, 1) := by decide +kernel
theorem d_Mo_copy_171 : decode prog_14_method_8_code 171 = .ok (.imul, 1) := by decide +kernel
theorem d_Mo_copy_172 : decode prog_14_method_8_code 172 = .ok (.iload 4, 2) := by decide +kernel
theorem d_Mo_copy_174 : decode prog_14_method_8_code 174 = .ok (.iadd, 1) := by decide +kernel
theorem d_Mo_copy_175 : decode prog_14_method_8_code 175 = .ok (.iload 6, 2) := by decide +kernel
theorem d_Mo_copy_177 : decode prog_14_method_8_code 177 = .ok (.iadd, 1) := by decide +kernel
theorem d_Mo_copy_178 : decode prog_14_method_8_code 178 = .ok (.aload_n 0, 1) := by decide +kernel
theorem d_Mo_copy_179 : decode prog_14_method_8_code 179 = .ok (.getfield 19, 3) := by decide +kernel
theorem d_Mo_copy_182 : decode prog_14_method_8_code 182 = .ok (.iload 6, 2) := by decide +kernel
theorem d_Mo_copy_184 : decode prog_14_method_8_code 184 = .ok (.iaload, 1) := by decide +kernel
theorem d_Mo_copy_185 : decode prog_14_method_8_code 185 = .ok (.iastore, 1) := by decide +kernel
theorem d_Mo_copy_186 : decode prog_14_method_8_code 186 = .ok (.iinc 6 1, 3) := by decide +kernel
theorem d_Mo_copy_189 : decode prog_14_method_8_code 189 = .ok (.goto (-32), 3) := by decide +kernel
theorem d_Mo_copy_192 : decode prog_14_method_8_code 192 = .ok (.aload_n 0, 1) := by decide +kernel
theorem d_Mo_copy_193 : decode prog_14_method_8_code 193 = .ok (.iload 5, 2) := by decide +kernel
theorem d_Mo_copy_195 : decode prog_14_method_8_code 195 = .ok (.invokevirtual 117, 3) := by decide +kernel
theorem d_Mo_copy_198 : decode prog_14_method_8_code 198 = .ok (.ireturn, 1) := by decide +kernel
theorem d_Mo_drop_0 : decode prog_14_method_9_code 0 = .ok (.iload_n 1, 1) := by decide +kernel
theorem d_Mo_drop_1 : decode prog_14_method_9_code 1 = .ok (.invokestatic 106, 3) := by decide +kernel
theorem d_Mo_drop_4 : decode prog_14_method_9_code 4 = .ok (.ifCond .ne 6, 3) := by decide +kernel
theorem d_Mo_drop_7 : decode prog_14_method_9_code 7 = .ok (.ldc 112, 2) := by decide +kernel
theorem d_Mo_drop_9 : decode prog_14_method_9_code 9 = .ok (.ireturn, 1) := by decide +kernel
theorem d_Mo_drop_10 : decode prog_14_method_9_code 10 = .ok (.aload_n 0, 1) := by decide +kernel
theorem d_Mo_drop_11 : decode prog_14_method_9_code 11 = .ok (.getfield 7, 3) := by decide +kernel
theorem d_Mo_drop_14 : decode prog_14_method_9_code 14 = .ok (.iload_n 1, 1) := by decide +kernel
theorem d_Mo_drop_15 : decode prog_14_method_9_code 15 = .ok (.iaload, 1) := by decide +kernel
theorem d_Mo_drop_16 : decode prog_14_method_9_code 16 = .ok (.ifCond .ne 9, 3) := by decide +kernel
theorem d_Mo_drop_19 : decode prog_14_method_9_code 19 = .ok (.aload_n 0, 1) := by decide +kernel
theorem d_Mo_drop_20 : decode prog_14_method_9_code 20 = .ok (.iconst 1, 1) := by decide +kernel
theorem d_Mo_drop_21 : decode prog_14_method_9_code 21 = .ok (.invokevirtual 113, 3) := by decide +kernel
theorem d_Mo_drop_24 : decode prog_14_method_9_code 24 = .ok (.ireturn, 1) := by decide +kernel
theorem d_Mo_drop_25 : decode prog_14_method_9_code 25 = .ok (.aload_n 0, 1) := by decide +kernel
theorem d_Mo_drop_26 : decode prog_14_method_9_code 26 = .ok (.getfield 7, 3) := by decide +kernel
theorem d_Mo_drop_29 : decode prog_14_method_9_code 29 = .ok (.iload_n 1, 1) := by decide +kernel
theorem d_Mo_drop_30 : decode prog_14_method_9_code 30 = .ok (.iconst 0, 1) := by decide +kernel
theorem d_Mo_drop_31 : decode prog_14_method_9_code 31 = .ok (.iastore, 1) := by decide +kernel
theorem d_Mo_drop_32 : decode prog_14_method_9_code 32 = .ok (.aload_n 0, 1) := by decide +kernel
theorem d_Mo_drop_33 : decode prog_14_method_9_code 33 = .ok (.aload_n 0, 1) := by decide +kernel
theorem d_Mo_drop_34 : decode prog_14_method_9_code 34 = .ok (.getfield 13, 3) := by decide +kernel
theorem d_Mo_drop_37 : decode prog_14_method_9_code 37 = .ok (.iload_n 1, 1) := by decide +kernel
theorem d_Mo_drop_38 : decode prog_14_method_9_code 38 = .ok (.iaload, 1) := by decide +kernel
theorem d_Mo_drop_39 : decode prog_14_method_9_code 39 = .ok (.invokevirtual 117, 3) := by decide +kernel
theorem d_Mo_drop_42 : decode prog_14_method_9_code 42 = .ok (.ireturn, 1) := by decide +kernel
theorem d_Mo_row_0 : decode prog_14_method_19_code 0 = .ok (.iload_n 1, 1) := by decide +kernel
theorem d_Mo_row_1 : decode prog_14_method_19_code 1 = .ok (.invokestatic 152, 3) := by decide +kernel
theorem d_Mo_row_4 : decode prog_14_method_19_code 4 = .ok (.ifCond .eq 23, 3) := by decide +kernel
theorem d_Mo_row_7 : decode prog_14_method_19_code 7 = .ok (.iload_n 2, 1) := by decide +kernel
theorem d_Mo_row_8 : decode prog_14_method_19_code 8 = .ok (.invokestatic 106, 3) := by decide +kernel
theorem d_Mo_row_11 : decode prog_14_method_19_code 11 = .ok (.ifCond .eq 16, 3) := by decide +kernel
theorem d_Mo_row_14 : decode prog_14_method_19_code 14 = .ok (.iload 4, 2) := by decide +kernel
theorem d_Mo_row_16 : decode prog_14_method_19_code 16 = .ok (.i2l, 1) := by decide +kernel
theorem d_Mo_row_17 : decode prog_14_method_19_code 17 = .ok (.lconst 1, 1) := by decide +kernel
theorem d_Mo_row_18 : decode prog_14_method_19_code 18 = .ok (.ldc2_w 155, 3) := by decide +kernel
theorem d_Mo_row_21 : decode prog_14_method_19_code 21 = .ok (.invokestatic 102, 3) := by decide +kernel
theorem d_Mo_row_24 : decode prog_14_method_19_code 24 = .ok (.ifCond .ne 6, 3) := by decide +kernel
theorem d_Mo_row_27 : decode prog_14_method_19_code 27 = .ok (.ldc 112, 2) := by decide +kernel
theorem d_Mo_row_29 : decode prog_14_method_19_code 29 = .ok (.ireturn, 1) := by decide +kernel
theorem d_Mo_row_30 : decode prog_14_method_19_code 30 = .ok (.aload_n 0, 1) := by decide +kernel
theorem d_Mo_row_31 : decode prog_14_method_19_code 31 = .ok (.getfield 7, 3) := by decide +kernel
theorem d_Mo_row_34 : decode prog_14_method_19_code 34 = .ok (.iload_n 2, 1) := by decide +kernel
theorem d_Mo_row_35 : decode prog_14_method_19_code 35 = .ok (.iaload, 1) := by decide +kernel
theorem d_Mo_row_36 : decode prog_14_method_19_code 36 = .ok (.ifCond .ne 9, 3) := by decide +kernel
theorem d_Mo_row_39 : decode prog_14_method_19_code 39 = .ok (.aload_n 0, 1) := by decide +kernel
theorem d_Mo_row_40 : decode prog_14_method_19_code 40 = .ok (.iconst 1, 1) := by decide +kernel
theorem d_Mo_row_41 : decode prog_14_method_19_code 41 = .ok (.invokevirtual 113, 3) := by decide +kernel
theorem d_Mo_row_44 : decode prog_14_method_19_code 44 = .ok (.ireturn, 1) := by decide +kernel
theorem d_Mo_row_45 : decode prog_14_method_19_code 45 = .ok (.iload_n 3, 1) := by decide +kernel
theorem d_Mo_row_46 : decode prog_14_method_19_code 46 = .ok (.ifCond .lt 24, 3) := by decide +kernel
theorem d_Mo_row_49 : decode prog_14_method_19_code 49 = .ok (.iload_n 3, 1) := by decide +kernel
theorem d_Mo_row_50 : decode prog_14_method_19_code 50 = .ok (.i2l, 1) := by decide +kernel
theorem d_Mo_row_51 : decode prog_14_method_19_code 51 = .ok (.ldc2_w 110, 3) := by decide +kernel
theorem d_Mo_row_54 : decode prog_14_method_19_code 54 = .ok (.iload 4, 2) := by decide +kernel
theorem d_Mo_row_56 : decode prog_14_method_19_code 56 = .ok (.i2l, 1) := by decide +kernel
theorem d_Mo_row_57 : decode prog_14_method_19_code 57 = .ok (.lmul, 1) := by decide +kernel
theorem d_Mo_row_58 : decode prog_14_method_19_code 58 = .ok (.ladd, 1) := by decide +kernel
theorem d_Mo_row_59 : decode prog_14_method_19_code 59 = .ok (.aload_n 0, 1) := by decide +kernel
theorem d_Mo_row_60 : decode prog_14_method_19_code 60 = .ok (.getfield 13, 3) := by decide +kernel
theorem d_Mo_row_63 : decode prog_14_method_19_code 63 = .ok (.iload_n 2, 1) := by decide +kernel
theorem d_Mo_row_64 : decode prog_14_method_19_code 64 = .ok (.iaload, 1) := by decide +kernel
theorem d_Mo_row_65 : decode prog_14_method_19_code 65 = .ok (.i2l, 1) := by decide +kernel
theorem d_Mo_row_66 : decode prog_14_method_19_code 66 = .ok (.lcmp, 1) := by decide +kernel
theorem d_Mo_row_67 : decode prog_14_method_19_code 67 = .ok (.ifCond .le 9, 3) := by decide +kernel
theorem d_Mo_row_70 : decode prog_14_method_19_code 70 = .ok (.aload_n 0, 1) := by decide +kernel
theorem d_Mo_row_71 : decode prog_14_method_19_code 71 = .ok (.iconst 2, 1) := by decide +kernel
theorem d_Mo_row_72 : decode prog_14_method_19_code 72 = .ok (.invokevirtual 113, 3) := by decide +kernel
theorem d_Mo_row_75 : decode prog_14_method_19_code 75 = .ok (.ireturn, 1) := by decide +kernel
theorem d_Mo_row_76 : decode prog_14_method_19_code 76 = .ok (.aload_n 0, 1) := by decide +kernel
theorem d_Mo_row_77 : decode prog_14_method_19_code 77 = .ok (.getfield 25, 3) := by decide +kernel
theorem d_Mo_row_80 : decode prog_14_method_19_code 80 = .ok (.bipush 10, 2) := by decide +kernel
theorem d_Mo_row_82 : decode prog_14_method_19_code 82 = .ok (.iload 4, 2) := by decide +kernel
theorem d_Mo_row_84 : decode prog_14_method_19_code 84 = .ok (.iastore, 1) := by decide +kernel
theorem d_Mo_row_85 : decode prog_14_method_19_code 85 = .ok (.iconst 0, 1) := by decide +kernel
theorem d_Mo_row_86 : decode prog_14_method_19_code 86 = .ok (.istore 5, 2) := by decide +kernel
theorem d_Mo_row_88 : decode prog_14_method_19_code 88 = .ok (.iload 5, 2) := by decide +kernel
theorem d_Mo_row_90 : decode prog_14_method_19_code 90 = .ok (.iconst 2, 1) := by decide +kernel
theorem d_Mo_row_91 : decode prog_14_method_19_code 91 = .ok (.iload 4, 2) := by decide +kernel
theorem d_Mo_row_93 : decode prog_14_method_19_code 93 = .ok (.imul, 1) := by decide +kernel
theorem d_Mo_row_94 : decode prog_14_method_19_code 94 = .ok (.if_icmp .ge 54, 3) := by decide +kernel
theorem d_Mo_row_97 : decode prog_14_method_19_code 97 = .ok (.aload_n 0, 1) := by decide +kernel
theorem d_Mo_row_98 : decode prog_14_method_19_code 98 = .ok (.getfield 16, 3) := by decide +kernel
theorem d_Mo_row_101 : decode prog_14_method_19_code 101 = .ok (.bipush 100, 2) := by decide +kernel
theorem d_Mo_row_103 : decode prog_14_method_19_code 103 = .ok (.iload_n 2, 1) := by decide +kernel
theorem d_Mo_row_104 : decode prog_14_method_19_code 104 = .ok (.imul, 1) := by decide +kernel
theorem d_Mo_row_105 : decode prog_14_method_19_code 105 = .ok (.iload_n 3, 1) := by decide +kernel
theorem d_Mo_row_106 : decode prog_14_method_19_code 106 = .ok (.iadd, 1) := by decide +kernel
theorem d_Mo_row_107 : decode prog_14_method_19_code 107 = .ok (.iload 5, 2) := by decide +kernel
theorem d_Mo_row_109 : decode prog_14_method_19_code 109 = .ok (.iadd, 1) := by decide +kernel
theorem d_Mo_row_110 : decode prog_14_method_19_code 110 = .ok (.iaload, 1) := by decide +kernel
theorem d_Mo_row_111 : decode prog_14_method_19_code 111 = .ok (.istore 6, 2) := by decide +kernel
theorem d_Mo_row_113 : decode prog_14_method_19_code 113 = .ok (.iload 6, 2) := by decide +kernel
theorem d_Mo_row_115 : decode prog_14_method_19_code 115 = .ok (.ifCond .ne 6, 3) := by decide +kernel
theorem d_Mo_row_118 : decode prog_14_method_19_code 118 = .ok (.ldc 112, 2) := by decide +kernel
theorem d_Mo_row_120 : decode prog_14_method_19_code 120 = .ok (.ireturn, 1) := by decide +kernel
theorem d_Mo_row_121 : decode prog_14_method_19_code 121 = .ok (.aload_n 0, 1) := by decide +kernel
theorem d_Mo_row_122 : decode prog_14_method_19_code 122 = .ok (.getfield 28, 3) := by decide +kernel
theorem d_Mo_row_125 : decode prog_14_method_19_code 125 = .ok (.sipush 400, 3) := by decide +kernel
theorem d_Mo_row_128 : decode prog_14_method_19_code 128 = .ok (.iload 5, 2) := by decide +kernel
theorem d_Mo_row_130 : decode prog_14_method_19_code 130 = .ok (.iadd, 1) := by decide +kernel
theorem d_Mo_row_131 : decode prog_14_method_19_code 131 = .ok (.iload 6, 2) := by decide +kernel
theorem d_Mo_row_133 : decode prog_14_method_19_code 133 = .ok (.ifCond .le 7, 3) := by decide +kernel
theorem d_Mo_row_136 : decode prog_14_method_19_code 136 = .ok (.iconst 1, 1) := by decide +kernel
theorem d_Mo_row_137 : decode prog_14_method_19_code 137 = .ok (.goto 4, 3) := by decide +kernel
theorem d_Mo_row_140 : decode prog_14_method_19_code 140 = .ok (.iconst (-1), 1) := by decide +kernel
theorem d_Mo_row_141 : decode prog_14_method_19_code 141 = .ok (.iastore, 1) := by decide +kernel
theorem d_Mo_row_142 : decode prog_14_method_19_code 142 = .ok (.iinc 5 1, 3) := by decide +kernel
theorem d_Mo_row_145 : decode prog_14_method_19_code 145 = .ok (.goto (-57), 3) := by decide +kernel
theorem d_Mo_row_148 : decode prog_14_method_19_code 148 = .ok (.aload_n 0, 1) := by decide +kernel
theorem d_Mo_row_149 : decode prog_14_method_19_code 149 = .ok (.iload_n 1, 1) := by decide +kernel
theorem d_Mo_row_150 : decode prog_14_method_19_code 150 = .ok (.iconst 1, 1) := by decide +kernel
theorem d_Mo_row_151 : decode prog_14_method_19_code 151 = .ok (.invokevirtual 157, 3) := by decide +kernel
theorem d_Mo_row_154 : decode prog_14_method_19_code 154 = .ok (.ireturn, 1) := by decide +kernel
theorem d_Mo_isPlace_0 : decode prog_14_method_10_code 0 = .ok (.iload_n 0, 1) := by decide +kernel
theorem d_Mo_isPlace_1 : decode prog_14_method_10_code 1 = .ok (.i2l, 1) := by decide +kernel
theorem d_Mo_isPlace_2 : decode prog_14_method_10_code 2 = .ok (.lconst 0, 1) := by decide +kernel
theorem d_Mo_isPlace_3 : decode prog_14_method_10_code 3 = .ok (.ldc2_w 120, 3) := by decide +kernel
theorem d_Mo_isPlace_6 : decode prog_14_method_10_code 6 = .ok (.invokestatic 102, 3) := by decide +kernel
theorem d_Mo_isPlace_9 : decode prog_14_method_10_code 9 = .ok (.ireturn, 1) := by decide +kernel
theorem d_Mo_keep_0 : decode prog_14_method_18_code 0 = .ok (.iload_n 2, 1) := by decide +kernel
theorem d_Mo_keep_1 : decode prog_14_method_18_code 1 = .ok (.iconst 1, 1) := by decide +kernel
theorem d_Mo_keep_2 : decode prog_14_method_18_code 2 = .ok (.if_icmp .ne 17, 3) := by decide +kernel
theorem d_Mo_keep_5 : decode prog_14_method_18_code 5 = .ok (.aload_n 0, 1) := by decide +kernel
theorem d_Mo_keep_6 : decode prog_14_method_18_code 6 = .ok (.getfield 22, 3) := by decide +kernel
theorem d_Mo_keep_9 : decode prog_14_method_18_code 9 = .ok (.bipush 10, 2) := by decide +kernel
theorem d_Mo_keep_11 : decode prog_14_method_18_code 11 = .ok (.aload_n 0, 1) := by decide +kernel
theorem d_Mo_keep_12 : decode prog_14_method_18_code 12 = .ok (.invokevirtual 137, 3) := by decide +kernel
theorem d_Mo_keep_15 : decode prog_14_method_18_code 15 = .ok (.iastore, 1) := by decide +kernel
theorem d_Mo_keep_16 : decode prog_14_method_18_code 16 = .ok (.goto 125, 3) := by decide +kernel
theorem d_Mo_keep_19 : decode prog_14_method_18_code 19 = .ok (.iload_n 2, 1) := by decide +kernel
theorem d_Mo_keep_20 : decode prog_14_method_18_code 20 = .ok (.iconst 5, 1) := by decide +kernel
theorem d_Mo_keep_21 : decode prog_14_method_18_code 21 = .ok (.if_icmp .ne 85, 3) := by decide +kernel
theorem d_Mo_keep_24 : decode prog_14_method_18_code 24 = .ok (.aload_n 0, 1) := by decide +kernel
theorem d_Mo_keep_25 : decode prog_14_method_18_code 25 = .ok (.aload_n 0, 1) := by decide +kernel
theorem d_Mo_keep_26 : decode prog_14_method_18_code 26 = .ok (.getfield 28, 3) := by decide +kernel
theorem d_Mo_keep_29 : decode prog_14_method_18_code 29 = .ok (.aload_n 0, 1) := by decide +kernel
theorem d_Mo_keep_30 : decode prog_14_method_18_code 30 = .ok (.getfield 34, 3) := by decide +kernel
theorem d_Mo_keep_33 : decode prog_14_method_18_code 33 = .ok (.sipush 400, 3) := by decide +kernel
theorem d_Mo_keep_36 : decode prog_14_method_18_code 36 = .ok (.aload_n 0, 1) := by decide +kernel
theorem d_Mo_keep_37 : decode prog_14_method_18_code 37 = .ok (.getfield 25, 3) := by decide +kernel
theorem d_Mo_keep_40 : decode prog_14_method_18_code 40 = .ok (.bipush 10, 2) := by decide +kernel
theorem d_Mo_keep_42 : decode prog_14_method_18_code 42 = .ok (.iaload, 1) := by decide +kernel
theorem d_Mo_keep_43 : decode prog_14_method_18_code 43 = .ok (.invokevirtual 122, 3) := by decide +kernel
theorem d_Mo_keep_46 : decode prog_14_method_18_code 46 = .ok (.ifCond .eq 32, 3) := by decide +kernel
theorem d_Mo_keep_49 : decode prog_14_method_18_code 49 = .ok (.aload_n 0, 1) := by decide +kernel
theorem d_Mo_keep_50 : decode prog_14_method_18_code 50 = .ok (.aload_n 0, 1) := by decide +kernel
theorem d_Mo_keep_51 : decode prog_14_method_18_code 51 = .ok (.getfield 31, 3) := by decide +kernel
theorem d_Mo_keep_54 : decode prog_14_method_18_code 54 = .ok (.aload_n 0, 1) := by decide +kernel
theorem d_Mo_keep_55 : decode prog_14_method_18_code 55 = .ok (.getfield 37, 3) := by decide +kernel
theorem d_Mo_keep_58 : decode prog_14_method_18_code 58 = .ok (.sipush 400, 3) := by decide +kernel
theorem d_Mo_keep_61 : decode prog_14_method_18_code 61 = .ok (.aload_n 0, 1) := by decide +kernel
theorem d_Mo_keep_62 : decode prog_14_method_18_code 62 = .ok (.getfield 25, 3) := by decide +kernel
theorem d_Mo_keep_65 : decode prog_14_method_18_code 65 = .ok (.bipush 10, 2) := by decide +kernel
theorem d_Mo_keep_67 : decode prog_14_method_18_code 67 = .ok (.iaload, 1) := by decide +kernel
theorem d_Mo_keep_68 : decode prog_14_method_18_code 68 = .ok (.invokevirtual 122, 3) := by decide +kernel
theorem d_Mo_keep_71 : decode prog_14_method_18_code 71 = .ok (.ifCond .eq 7, 3) := by decide +kernel
theorem d_Mo_keep_74 : decode prog_14_method_18_code 74 = .ok (.iconst 1, 1) := by decide +kernel
theorem d_Mo_keep_75 : decode prog_14_method_18_code 75 = .ok (.goto 4, 3) := by decide +kernel
theorem d_Mo_keep_78 : decode prog_14_method_18_code 78 = .ok (.iconst 0, 1) := by decide +kernel
theorem d_Mo_keep_79 : decode prog_14_method_18_code 79 = .ok (.istore_n 3, 1) := by decide +kernel
theorem d_Mo_keep_80 : decode prog_14_method_18_code 80 = .ok (.aload_n 0, 1) := by decide +kernel
theorem d_Mo_keep_81 : decode prog_14_method_18_code 81 = .ok (.getfield 22, 3) := by decide +kernel
theorem d_Mo_keep_84 : decode prog_14_method_18_code 84 = .ok (.bipush 10, 2) := by decide +kernel
theorem d_Mo_keep_86 : decode prog_14_method_18_code 86 = .ok (.aload_n 0, 1) := by decide +kernel
theorem d_Mo_keep_87 : decode prog_14_method_18_code 87 = .ok (.bipush 10, 2) := by decide +kernel
theorem d_Mo_keep_89 : decode prog_14_method_18_code 89 = .ok (.invokevirtual 141, 3) := by decide +kernel
theorem d_Mo_keep_92 : decode prog_14_method_18_code 92 = .ok (.iconst 1, 1) := by decide +kernel
theorem d_Mo_keep_93 : decode prog_14_method_18_code 93 = .ok (.if_icmp .ne 8, 3) := by decide +kernel
theorem d_Mo_keep_96 : decode prog_14_method_18_code 96 = .ok (.bipush 6, 2) := by decide +kernel
theorem d_Mo_keep_98 : decode prog_14_method_18_code 98 = .ok (.goto 4, 3) := by decide +kernel
theorem d_Mo_keep_101 : decode prog_14_method_18_code 101 = .ok (.iconst 5, 1) := by decide +kernel
theorem d_Mo_keep_102 : decode prog_14_method_18_code 102 = .ok (.iastore, 1) := by decide +kernel
theorem d_Mo_keep_103 : decode prog_14_method_18_code 103 = .ok (.goto 38, 3) := by decide +kernel
theorem d_Mo_keep_106 : decode prog_14_method_18_code 106 = .ok (.aload_n 0, 1) := by decide +kernel
theorem d_Mo_keep_107 : decode prog_14_method_18_code 107 = .ok (.getfield 22, 3) := by decide +kernel
theorem d_Mo_keep_110 : decode prog_14_method_18_code 110 = .ok (.bipush 10, 2) := by decide +kernel
theorem d_Mo_keep_112 : decode prog_14_method_18_code 112 = .ok (.aload_n 0, 1) := by decide +kernel
theorem d_Mo_keep_113 : decode prog_14_method_18_code 113 = .ok (.aload_n 0, 1) := by decide +kernel
theorem d_Mo_keep_114 : decode prog_14_method_18_code 114 = .ok (.getfield 28, 3) := by decide +kernel
theorem d_Mo_keep_117 : decode prog_14_method_18_code 117 = .ok (.sipush 400, 3) := by decide +kernel
theorem d_Mo_keep_120 : decode prog_14_method_18_code 120 = .ok (.aload_n 0, 1) := by decide +kernel
theorem d_Mo_keep_121 : decode prog_14_method_18_code 121 = .ok (.getfield 25, 3) := by decide +kernel
theorem d_Mo_keep_124 : decode prog_14_method_18_code 124 = .ok (.bipush 10, 2) := by decide +kernel
theorem d_Mo_keep_126 : decode prog_14_method_18_code 126 = .ok (.iaload, 1) := by decide +kernel
theorem d_Mo_keep_127 : decode prog_14_method_18_code 127 = .ok (.invokevirtual 144, 3) := by decide +kernel
theorem d_Mo_keep_130 : decode prog_14_method_18_code 130 = .ok (.ifCond .eq 8, 3) := by decide +kernel
theorem d_Mo_keep_133 : decode prog_14_method_18_code 133 = .ok (.bipush 8, 2) := by decide +kernel
theorem d_Mo_keep_135 : decode prog_14_method_18_code 135 = .ok (.goto 5, 3) := by decide +kernel
theorem d_Mo_keep_138 : decode prog_14_method_18_code 138 = .ok (.bipush 7, 2) := by decide +kernel
theorem d_Mo_keep_140 : decode prog_14_method_18_code 140 = .ok (.iastore, 1) := by decide +kernel
theorem d_Mo_keep_141 : decode prog_14_method_18_code 141 = .ok (.aload_n 0, 1) := by decide +kernel
theorem d_Mo_keep_142 : decode prog_14_method_18_code 142 = .ok (.iload_n 1, 1) := by decide +kernel
theorem d_Mo_keep_143 : decode prog_14_method_18_code 143 = .ok (.bipush 10, 2) := by decide +kernel
theorem d_Mo_keep_145 : decode prog_14_method_18_code 145 = .ok (.invokevirtual 148, 3) := by decide +kernel
theorem d_Mo_keep_148 : decode prog_14_method_18_code 148 = .ok (.aload_n 0, 1) := by decide +kernel
theorem d_Mo_keep_149 : decode prog_14_method_18_code 149 = .ok (.aload_n 0, 1) := by decide +kernel
theorem d_Mo_keep_150 : decode prog_14_method_18_code 150 = .ok (.getfield 22, 3) := by decide +kernel
theorem d_Mo_keep_153 : decode prog_14_method_18_code 153 = .ok (.iload_n 1, 1) := by decide +kernel
theorem d_Mo_keep_154 : decode prog_14_method_18_code 154 = .ok (.iaload, 1) := by decide +kernel
theorem d_Mo_keep_155 : decode prog_14_method_18_code 155 = .ok (.invokevirtual 117, 3) := by decide +kernel
theorem d_Mo_keep_158 : decode prog_14_method_18_code 158 = .ok (.ireturn, 1) := by decide +kernel
theorem d_Mo_rowKind_0 : decode prog_14_method_13_code 0 = .ok (.sipush 400, 3) := by decide +kernel
theorem d_Mo_rowKind_3 : decode prog_14_method_13_code 3 = .ok (.istore_n 1, 1) := by decide +kernel
theorem d_Mo_rowKind_4 : decode prog_14_method_13_code 4 = .ok (.aload_n 0, 1) := by decide +kernel
theorem d_Mo_rowKind_5 : decode prog_14_method_13_code 5 = .ok (.getfield 25, 3) := by decide +kernel
theorem d_Mo_rowKind_8 : decode prog_14_method_13_code 8 = .ok (.bipush 10, 2) := by decide +kernel
theorem d_Mo_rowKind_10 : decode prog_14_method_13_code 10 = .ok (.iaload, 1) := by decide +kernel
theorem d_Mo_rowKind_11 : decode prog_14_method_13_code 11 = .ok (.istore_n 2, 1) := by decide +kernel
theorem d_Mo_rowKind_12 : decode prog_14_method_13_code 12 = .ok (.aload_n 0, 1) := by decide +kernel
theorem d_Mo_rowKind_13 : decode prog_14_method_13_code 13 = .ok (.aload_n 0, 1) := by decide +kernel
theorem d_Mo_rowKind_14 : decode prog_14_method_13_code 14 = .ok (.getfield 28, 3) := by decide +kernel
theorem d_Mo_rowKind_17 : decode prog_14_method_13_code 17 = .ok (.aload_n 0, 1) := by decide +kernel
theorem d_Mo_rowKind_18 : decode prog_14_method_13_code 18 = .ok (.getfield 34, 3) := by decide +kernel
theorem d_Mo_rowKind_21 : decode prog_14_method_13_code 21 = .ok (.iload_n 1, 1) := by decide +kernel
theorem d_Mo_rowKind_22 : decode prog_14_method_13_code 22 = .ok (.iload_n 2, 1) := by decide +kernel
theorem d_Mo_rowKind_23 : decode prog_14_method_13_code 23 = .ok (.invokevirtual 122, 3) := by decide +kernel
theorem d_Mo_rowKind_26 : decode prog_14_method_13_code 26 = .ok (.ifCond .ne 5, 3) := by decide +kernel
theorem d_Mo_rowKind_29 : decode prog_14_method_13_code 29 = .ok (.iconst 1, 1) := by decide +kernel
theorem d_Mo_rowKind_30 : decode prog_14_method_13_code 30 = .ok (.ireturn, 1) := by decide +kernel
theorem d_Mo_rowKind_31 : decode prog_14_method_13_code 31 = .ok (.iconst 1, 1) := by decide +kernel
theorem d_Mo_rowKind_32 : decode prog_14_method_13_code 32 = .ok (.istore_n 3, 1) := by decide +kernel
theorem d_Mo_rowKind_33 : decode prog_14_method_13_code 33 = .ok (.iconst 1, 1) := by decide +kernel
theorem d_Mo_rowKind_34 : decode prog_14_method_13_code 34 = .ok (.istore 4, 2) := by decide +kernel
theorem d_Mo_rowKind_36 : decode prog_14_method_13_code 36 = .ok (.iconst 0, 1) := by decide +kernel
theorem d_Mo_rowKind_37 : decode prog_14_method_13_code 37 = .ok (.istore 5, 2) := by decide +kernel
theorem d_Mo_rowKind_39 : decode prog_14_method_13_code 39 = .ok (.iload 5, 2) := by decide +kernel
theorem d_Mo_rowKind_41 : decode prog_14_method_13_code 41 = .ok (.iconst 2, 1) := by decide +kernel
theorem d_Mo_rowKind_42 : decode prog_14_method_13_code 42 = .ok (.iload_n 2, 1) := by decide +kernel
theorem d_Mo_rowKind_43 : decode prog_14_method_13_code 43 = .ok (.imul, 1) := by decide +kernel
theorem d_Mo_rowKind_44 : decode prog_14_method_13_code 44 = .ok (.if_icmp .ge 78, 3) := by decide +kernel
theorem d_Mo_rowKind_47 : decode prog_14_method_13_code 47 = .ok (.iload_n 3, 1) := by decide +kernel
theorem d_Mo_rowKind_48 : decode prog_14_method_13_code 48 = .ok (.ifCond .eq 31, 3) := by decide +kernel
theorem d_Mo_rowKind_51 : decode prog_14_method_13_code 51 = .ok (.aload_n 0, 1) := by decide +kernel
theorem d_Mo_rowKind_52 : decode prog_14_method_13_code 52 = .ok (.getfield 28, 3) := by decide +kernel
theorem d_Mo_rowKind_55 : decode prog_14_method_13_code 55 = .ok (.iload_n 1, 1) := by decide +kernel
theorem d_Mo_rowKind_56 : decode prog_14_method_13_code 56 = .ok (.iload 5, 2) := by decide +kernel
theorem d_Mo_rowKind_58 : decode prog_14_method_13_code 58 = .ok (.iadd, 1) := by decide +kernel
theorem d_Mo_rowKind_59 : decode prog_14_method_13_code 59 = .ok (.iaload, 1) := by decide +kernel
theorem d_Mo_rowKind_60 : decode prog_14_method_13_code 60 = .ok (.iload 5, 2) := by decide +kernel
theorem d_Mo_rowKind_62 : decode prog_14_method_13_code 62 = .ok (.iconst 2, 1) := by decide +kernel
theorem d_Mo_rowKind_63 : decode prog_14_method_13_code 63 = .ok (.irem, 1) := by decide +kernel
theorem d_Mo_rowKind_64 : decode prog_14_method_13_code 64 = .ok (.ifCond .ne 7, 3) := by decide +kernel
theorem d_Mo_rowKind_67 : decode prog_14_method_13_code 67 = .ok (.iconst 1, 1) := by decide +kernel
theorem d_Mo_rowKind_68 : decode prog_14_method_13_code 68 = .ok (.goto 4, 3) := by decide +kernel
theorem d_Mo_rowKind_71 : decode prog_14_method_13_code 71 = .ok (.iconst (-1), 1) := by decide +kernel
theorem d_Mo_rowKind_72 : decode prog_14_method_13_code 72 = .ok (.if_icmp .ne 7, 3) := by decide +kernel
theorem d_Mo_rowKind_75 : decode prog_14_method_13_code 75 = .ok (.iconst 1, 1) := by decide +kernel
theorem d_Mo_rowKind_76 : decode prog_14_method_13_code 76 = .ok (.goto 4, 3) := by decide +kernel
theorem d_Mo_rowKind_79 : decode prog_14_method_13_code 79 = .ok (.iconst 0, 1) := by decide +kernel
theorem d_Mo_rowKind_80 : decode prog_14_method_13_code 80 = .ok (.istore_n 3, 1) := by decide +kernel
theorem d_Mo_rowKind_81 : decode prog_14_method_13_code 81 = .ok (.iload 4, 2) := by decide +kernel
theorem d_Mo_rowKind_83 : decode prog_14_method_13_code 83 = .ok (.ifCond .eq 30, 3) := by decide +kernel
theorem d_Mo_rowKind_86 : decode prog_14_method_13_code 86 = .ok (.aload_n 0, 1) := by decide +kernel
theorem d_Mo_rowKind_87 : decode prog_14_method_13_code 87 = .ok (.getfield 28, 3) := by decide +kernel
theorem d_Mo_rowKind_90 : decode prog_14_method_13_code 90 = .ok (.iload_n 1, 1) := by decide +kernel
theorem d_Mo_rowKind_91 : decode prog_14_method_13_code 91 = .ok (.iload 5, 2) := by decide +kernel
theorem d_Mo_rowKind_93 : decode prog_14_method_13_code 93 = .ok (.iadd, 1) := by decide +kernel
theorem d_Mo_rowKind_94 : decode prog_14_method_13_code 94 = .ok (.iaload, 1) := by decide +kernel
theorem d_Mo_rowKind_95 : decode prog_14_method_13_code 95 = .ok (.iload 5, 2) := by decide +kernel
theorem d_Mo_rowKind_97 : decode prog_14_method_13_code 97 = .ok (.iload_n 2, 1) := by decide +kernel
theorem d_Mo_rowKind_98 : decode prog_14_method_13_code 98 = .ok (.if_icmp .ge 7, 3) := by decide +kernel
theorem d_Mo_rowKind_101 : decode prog_14_method_13_code 101 = .ok (.iconst 1, 1) := by decide +kernel
theorem d_Mo_rowKind_102 : decode prog_14_method_13_code 102 = .ok (.goto 4, 3) := by decide +kernel
theorem d_Mo_rowKind_105 : decode prog_14_method_13_code 105 = .ok (.iconst (-1), 1) := by decide +kernel
theorem d_Mo_rowKind_106 : decode prog_14_method_13_code 106 = .ok (.if_icmp .ne 7, 3) := by decide +kernel
theorem d_Mo_rowKind_109 : decode prog_14_method_13_code 109 = .ok (.iconst 1, 1) := by decide +kernel
theorem d_Mo_rowKind_110 : decode prog_14_method_13_code 110 = .ok (.goto 4, 3) := by decide +kernel
theorem d_Mo_rowKind_113 : decode prog_14_method_13_code 113 = .ok (.iconst 0, 1) := by decide +kernel
theorem d_Mo_rowKind_114 : decode prog_14_method_13_code 114 = .ok (.istore 4, 2) := by decide +kernel
theorem d_Mo_rowKind_116 : decode prog_14_method_13_code 116 = .ok (.iinc 5 1, 3) := by decide +kernel
theorem d_Mo_rowKind_119 : decode prog_14_method_13_code 119 = .ok (.goto (-80), 3) := by decide +kernel
theorem d_Mo_rowKind_122 : decode prog_14_method_13_code 122 = .ok (.iload_n 3, 1) := by decide +kernel
theorem d_Mo_rowKind_123 : decode prog_14_method_13_code 123 = .ok (.ifCond .eq 7, 3) := by decide +kernel
theorem d_Mo_rowKind_126 : decode prog_14_method_13_code 126 = .ok (.iconst 4, 1) := by decide +kernel
theorem d_Mo_rowKind_127 : decode prog_14_method_13_code 127 = .ok (.goto 13, 3) := by decide +kernel
theorem d_Mo_rowKind_130 : decode prog_14_method_13_code 130 = .ok (.iload 4, 2) := by decide +kernel
theorem d_Mo_rowKind_132 : decode prog_14_method_13_code 132 = .ok (.ifCond .eq 7, 3) := by decide +kernel
theorem d_Mo_rowKind_135 : decode prog_14_method_13_code 135 = .ok (.iconst 3, 1) := by decide +kernel
theorem d_Mo_rowKind_136 : decode prog_14_method_13_code 136 = .ok (.goto 4, 3) := by decide +kernel
theorem d_Mo_rowKind_139 : decode prog_14_method_13_code 139 = .ok (.iconst 2, 1) := by decide +kernel
theorem d_Mo_rowKind_140 : decode prog_14_method_13_code 140 = .ok (.ireturn, 1) := by decide +kernel
theorem d_Mo_joins_0 : decode prog_14_method_12_code 0 = .ok (.iconst 0, 1) := by decide +kernel
theorem d_Mo_joins_1 : decode prog_14_method_12_code 1 = .ok (.istore 5, 2) := by decide +kernel
theorem d_Mo_joins_3 : decode prog_14_method_12_code 3 = .ok (.iconst 0, 1) := by decide +kernel
theorem d_Mo_joins_4 : decode prog_14_method_12_code 4 = .ok (.istore 6, 2) := by decide +kernel
theorem d_Mo_joins_6 : decode prog_14_method_12_code 6 = .ok (.iload 6, 2) := by decide +kernel
theorem d_Mo_joins_8 : decode prog_14_method_12_code 8 = .ok (.iconst 2, 1) := by decide +kernel
theorem d_Mo_joins_9 : decode prog_14_method_12_code 9 = .ok (.iload 4, 2) := by decide +kernel
theorem d_Mo_joins_11 : decode prog_14_method_12_code 11 = .ok (.imul, 1) := by decide +kernel
theorem d_Mo_joins_12 : decode prog_14_method_12_code 12 = .ok (.if_icmp .ge 69, 3) := by decide +kernel
theorem d_Mo_joins_15 : decode prog_14_method_12_code 15 = .ok (.aload_n 1, 1) := by decide +kernel
theorem d_Mo_joins_16 : decode prog_14_method_12_code 16 = .ok (.iload_n 3, 1) := by decide +kernel
theorem d_Mo_joins_17 : decode prog_14_method_12_code 17 = .ok (.iload 6, 2) := by decide +kernel
theorem d_Mo_joins_19 : decode prog_14_method_12_code 19 = .ok (.iadd, 1) := by decide +kernel
theorem d_Mo_joins_20 : decode prog_14_method_12_code 20 = .ok (.iaload, 1) := by decide +kernel
theorem d_Mo_joins_21 : decode prog_14_method_12_code 21 = .ok (.ifCond .le 18, 3) := by decide +kernel
theorem d_Mo_joins_24 : decode prog_14_method_12_code 24 = .ok (.aload_n 0, 1) := by decide +kernel
theorem d_Mo_joins_25 : decode prog_14_method_12_code 25 = .ok (.getfield 43, 3) := by decide +kernel
theorem d_Mo_joins_28 : decode prog_14_method_12_code 28 = .ok (.iload 5, 2) := by decide +kernel
theorem d_Mo_joins_30 : decode prog_14_method_12_code 30 = .ok (.iload 6, 2) := by decide +kernel
theorem d_Mo_joins_32 : decode prog_14_method_12_code 32 = .ok (.iastore, 1) := by decide +kernel
theorem d_Mo_joins_33 : decode prog_14_method_12_code 33 = .ok (.iinc 5 1, 3) := by decide +kernel
theorem d_Mo_joins_36 : decode prog_14_method_12_code 36 = .ok (.goto 39, 3) := by decide +kernel
theorem d_Mo_joins_39 : decode prog_14_method_12_code 39 = .ok (.iload 5, 2) := by decide +kernel
theorem d_Mo_joins_41 : decode prog_14_method_12_code 41 = .ok (.ifCond .ne 5, 3) := by decide +kernel
theorem d_Mo_joins_44 : decode prog_14_method_12_code 44 = .ok (.iconst 0, 1) := by decide +kernel
theorem d_Mo_joins_45 : decode prog_14_method_12_code 45 = .ok (.ireturn, 1) := by decide +kernel
theorem d_Mo_joins_46 : decode prog_14_method_12_code 46 = .ok (.iinc 5 (-1), 3) := by decide +kernel
theorem d_Mo_joins_49 : decode prog_14_method_12_code 49 = .ok (.aload_n 2, 1) := by decide +kernel
theorem d_Mo_joins_50 : decode prog_14_method_12_code 50 = .ok (.iload_n 3, 1) := by decide +kernel
theorem d_Mo_joins_51 : decode prog_14_method_12_code 51 = .ok (.iload 6, 2) := by decide +kernel
theorem d_Mo_joins_53 : decode prog_14_method_12_code 53 = .ok (.iadd, 1) := by decide +kernel
theorem d_Mo_joins_54 : decode prog_14_method_12_code 54 = .ok (.aload_n 0, 1) := by decide +kernel
theorem d_Mo_joins_55 : decode prog_14_method_12_code 55 = .ok (.getfield 43, 3) := by decide +kernel
theorem d_Mo_joins_58 : decode prog_14_method_12_code 58 = .ok (.iload 5, 2) := by decide +kernel
theorem d_Mo_joins_60 : decode prog_14_method_12_code 60 = .ok (.iaload, 1) := by decide +kernel
theorem d_Mo_joins_61 : decode prog_14_method_12_code 61 = .ok (.iastore, 1) := by decide +kernel
theorem d_Mo_joins_62 : decode prog_14_method_12_code 62 = .ok (.aload_n 2, 1) := by decide +kernel
theorem d_Mo_joins_63 : decode prog_14_method_12_code 63 = .ok (.iload_n 3, 1) := by decide +kernel
theorem d_Mo_joins_64 : decode prog_14_method_12_code 64 = .ok (.aload_n 0, 1) := by decide +kernel
theorem d_Mo_joins_65 : decode prog_14_method_12_code 65 = .ok (.getfield 43, 3) := by decide +kernel
theorem d_Mo_joins_68 : decode prog_14_method_12_code 68 = .ok (.iload 5, 2) := by decide +kernel
theorem d_Mo_joins_70 : decode prog_14_method_12_code 70 = .ok (.iaload, 1) := by decide +kernel
theorem d_Mo_joins_71 : decode prog_14_method_12_code 71 = .ok (.iadd, 1) := by decide +kernel
theorem d_Mo_joins_72 : decode prog_14_method_12_code 72 = .ok (.iload 6, 2) := by decide +kernel
theorem d_Mo_joins_74 : decode prog_14_method_12_code 74 = .ok (.iastore, 1) := by decide +kernel
theorem d_Mo_joins_75 : decode prog_14_method_12_code 75 = .ok (.iinc 6 1, 3) := by decide +kernel
theorem d_Mo_joins_78 : decode prog_14_method_12_code 78 = .ok (.goto (-72), 3) := by decide +kernel
theorem d_Mo_joins_81 : decode prog_14_method_12_code 81 = .ok (.iload 5, 2) := by decide +kernel
theorem d_Mo_joins_83 : decode prog_14_method_12_code 83 = .ok (.ifCond .ne 7, 3) := by decide +kernel
theorem d_Mo_joins_86 : decode prog_14_method_12_code 86 = .ok (.iconst 1, 1) := by decide +kernel
theorem d_Mo_joins_87 : decode prog_14_method_12_code 87 = .ok (.goto 4, 3) := by decide +kernel
theorem d_Mo_joins_90 : decode prog_14_method_12_code 90 = .ok (.iconst 0, 1) := by decide +kernel
theorem d_Mo_joins_91 : decode prog_14_method_12_code 91 = .ok (.ireturn, 1) := by decide +kernel
theorem d_Mo_landLoops_0 : decode prog_14_method_15_code 0 = .ok (.aload_n 0, 1) := by decide +kernel
theorem d_Mo_landLoops_1 : decode prog_14_method_15_code 1 = .ok (.aload_n 0, 1) := by decide +kernel
theorem d_Mo_landLoops_2 : decode prog_14_method_15_code 2 = .ok (.getfield 34, 3) := by decide +kernel
theorem d_Mo_landLoops_5 : decode prog_14_method_15_code 5 = .ok (.bipush 40, 2) := by decide +kernel
theorem d_Mo_landLoops_7 : decode prog_14_method_15_code 7 = .ok (.iload_n 1, 1) := by decide +kernel
theorem d_Mo_landLoops_8 : decode prog_14_method_15_code 8 = .ok (.imul, 1) := by decide +kernel
theorem d_Mo_landLoops_9 : decode prog_14_method_15_code 9 = .ok (.aload_n 0, 1) := by decide +kernel
theorem d_Mo_landLoops_10 : decode prog_14_method_15_code 10 = .ok (.getfield 37, 3) := by decide +kernel
theorem d_Mo_landLoops_13 : decode prog_14_method_15_code 13 = .ok (.bipush 40, 2) := by decide +kernel
theorem d_Mo_landLoops_15 : decode prog_14_method_15_code 15 = .ok (.iload_n 1, 1) := by decide +kernel
theorem d_Mo_landLoops_16 : decode prog_14_method_15_code 16 = .ok (.imul, 1) := by decide +kernel
theorem d_Mo_landLoops_17 : decode prog_14_method_15_code 17 = .ok (.aload_n 0, 1) := by decide +kernel
theorem d_Mo_landLoops_18 : decode prog_14_method_15_code 18 = .ok (.getfield 25, 3) := by decide +kernel
theorem d_Mo_landLoops_21 : decode prog_14_method_15_code 21 = .ok (.iload_n 1, 1) := by decide +kernel
theorem d_Mo_landLoops_22 : decode prog_14_method_15_code 22 = .ok (.iaload, 1) := by decide +kernel
theorem d_Mo_landLoops_23 : decode prog_14_method_15_code 23 = .ok (.invokevirtual 126, 3) := by decide +kernel
theorem d_Mo_landLoops_26 : decode prog_14_method_15_code 26 = .ok (.ireturn, 1) := by decide +kernel
theorem d_Mo_findLoops_0 : decode prog_14_method_14_code 0 = .ok (.iconst 0, 1) := by decide +kernel
theorem d_Mo_findLoops_1 : decode prog_14_method_14_code 1 = .ok (.istore 6, 2) := by decide +kernel
theorem d_Mo_findLoops_3 : decode prog_14_method_14_code 3 = .ok (.iconst 0, 1) := by decide +kernel
theorem d_Mo_findLoops_4 : decode prog_14_method_14_code 4 = .ok (.istore 7, 2) := by decide +kernel
theorem d_Mo_findLoops_6 : decode prog_14_method_14_code 6 = .ok (.iload 7, 2) := by decide +kernel
theorem d_Mo_findLoops_8 : decode prog_14_method_14_code 8 = .ok (.iconst 2, 1) := by decide +kernel
theorem d_Mo_findLoops_9 : decode prog_14_method_14_code 9 = .ok (.iload 5, 2) := by decide +kernel
theorem d_Mo_findLoops_11 : decode prog_14_method_14_code 11 = .ok (.imul, 1) := by decide +kernel
theorem d_Mo_findLoops_12 : decode prog_14_method_14_code 12 = .ok (.if_icmp .ge 17, 3) := by decide +kernel
theorem d_Mo_findLoops_15 : decode prog_14_method_14_code 15 = .ok (.aload_n 0, 1) := by decide +kernel
theorem d_Mo_findLoops_16 : decode prog_14_method_14_code 16 = .ok (.getfield 46, 3) := by decide +kernel
theorem d_Mo_findLoops_19 : decode prog_14_method_14_code 19 = .ok (.iload 7, 2) := by decide +kernel
theorem d_Mo_findLoops_21 : decode prog_14_method_14_code 21 = .ok (.iconst (-1), 1) := by decide +kernel
theorem d_Mo_findLoops_22 : decode prog_14_method_14_code 22 = .ok (.iastore, 1) := by decide +kernel
theorem d_Mo_findLoops_23 : decode prog_14_method_14_code 23 = .ok (.iinc 7 1, 3) := by decide +kernel
theorem d_Mo_findLoops_26 : decode prog_14_method_14_code 26 = .ok (.goto (-20), 3) := by decide +kernel
theorem d_Mo_findLoops_29 : decode prog_14_method_14_code 29 = .ok (.iconst 0, 1) := by decide +kernel
theorem d_Mo_findLoops_30 : decode prog_14_method_14_code 30 = .ok (.istore 7, 2) := by decide +kernel
theorem d_Mo_findLoops_32 : decode prog_14_method_14_code 32 = .ok (.iload 7, 2) := by decide +kernel
theorem d_Mo_findLoops_34 : decode prog_14_method_14_code 34 = .ok (.iconst 2, 1) := by decide +kernel
theorem d_Mo_findLoops_35 : decode prog_14_method_14_code 35 = .ok (.iload 5, 2) := by decide +kernel
theorem d_Mo_findLoops_37 : decode prog_14_method_14_code 37 = .ok (.imul, 1) := by decide +kernel
theorem d_Mo_findLoops_38 : decode prog_14_method_14_code 38 = .ok (.if_icmp .ge 74, 3) := by decide +kernel
theorem d_Mo_findLoops_41 : decode prog_14_method_14_code 41 = .ok (.aload_n 0, 1) := by decide +kernel
theorem d_Mo_findLoops_42 : decode prog_14_method_14_code 42 = .ok (.getfield 46, 3) := by decide +kernel
theorem d_Mo_findLoops_45 : decode prog_14_method_14_code 45 = .ok (.iload 7, 2) := by decide +kernel
theorem d_Mo_findLoops_47 : decode prog_14_method_14_code 47 = .ok (.iaload, 1) := by decide +kernel
theorem d_Mo_findLoops_48 : decode prog_14_method_14_code 48 = .ok (.ifCond .ge 58, 3) := by decide +kernel
theorem d_Mo_findLoops_51 : decode prog_14_method_14_code 51 = .ok (.iload 7, 2) := by decide +kernel
theorem d_Mo_findLoops_53 : decode prog_14_method_14_code 53 = .ok (.istore 8, 2) := by decide +kernel
theorem d_Mo_findLoops_55 : decode prog_14_method_14_code 55 = .ok (.aload_n 0, 1) := by decide +kernel
theorem d_Mo_findLoops_56 : decode prog_14_method_14_code 56 = .ok (.getfield 46, 3) := by decide +kernel
theorem d_Mo_findLoops_59 : decode prog_14_method_14_code 59 = .ok (.iload 8, 2) := by decide +kernel
theorem d_Mo_findLoops_61 : decode prog_14_method_14_code 61 = .ok (.iaload, 1) := by decide +kernel
theorem d_Mo_findLoops_62 : decode prog_14_method_14_code 62 = .ok (.ifCond .ge 41, 3) := by decide +kernel
theorem d_Mo_findLoops_65 : decode prog_14_method_14_code 65 = .ok (.aload_n 0, 1) := by decide +kernel
theorem d_Mo_findLoops_66 : decode prog_14_method_14_code 66 = .ok (.getfield 46, 3) := by decide +kernel
theorem d_Mo_findLoops_69 : decode prog_14_method_14_code 69 = .ok (.iload 8, 2) := by decide +kernel
theorem d_Mo_findLoops_71 : decode prog_14_method_14_code 71 = .ok (.iload 6, 2) := by decide +kernel
theorem d_Mo_findLoops_73 : decode prog_14_method_14_code 73 = .ok (.iastore, 1) := by decide +kernel
theorem d_Mo_findLoops_74 : decode prog_14_method_14_code 74 = .ok (.aload_n 1, 1) := by decide +kernel
theorem d_Mo_findLoops_75 : decode prog_14_method_14_code 75 = .ok (.iload_n 2, 1) := by decide +kernel
theorem d_Mo_findLoops_76 : decode prog_14_method_14_code 76 = .ok (.iload 8, 2) := by decide +kernel
theorem d_Mo_findLoops_78 : decode prog_14_method_14_code 78 = .ok (.iadd, 1) := by decide +kernel
theorem d_Mo_findLoops_79 : decode prog_14_method_14_code 79 = .ok (.iaload, 1) := by decide +kernel
theorem d_Mo_findLoops_80 : decode prog_14_method_14_code 80 = .ok (.istore 8, 2) := by decide +kernel
theorem d_Mo_findLoops_82 : decode prog_14_method_14_code 82 = .ok (.aload_n 0, 1) := by decide +kernel
theorem d_Mo_findLoops_83 : decode prog_14_method_14_code 83 = .ok (.getfield 46, 3) := by decide +kernel
theorem d_Mo_findLoops_86 : decode prog_14_method_14_code 86 = .ok (.iload 8, 2) := by decide +kernel
theorem d_Mo_findLoops_88 : decode prog_14_method_14_code 88 = .ok (.iload 6, 2) := by decide +kernel
theorem d_Mo_findLoops_90 : decode prog_14_method_14_code 90 = .ok (.iastore, 1) := by decide +kernel
theorem d_Mo_findLoops_91 : decode prog_14_method_14_code 91 = .ok (.aload_n 3, 1) := by decide +kernel
theorem d_Mo_findLoops_92 : decode prog_14_method_14_code 92 = .ok (.iload 4, 2) := by decide +kernel
theorem d_Mo_findLoops_94 : decode prog_14_method_14_code 94 = .ok (.iload 8, 2) := by decide +kernel
theorem d_Mo_findLoops_96 : decode prog_14_method_14_code 96 = .ok (.iadd, 1) := by decide +kernel
theorem d_Mo_findLoops_97 : decode prog_14_method_14_code 97 = .ok (.iaload, 1) := by decide +kernel
theorem d_Mo_findLoops_98 : decode prog_14_method_14_code 98 = .ok (.istore 8, 2) := by decide +kernel
theorem d_Mo_findLoops_100 : decode prog_14_method_14_code 100 = .ok (.goto (-45), 3) := by decide +kernel
theorem d_Mo_findLoops_103 : decode prog_14_method_14_code 103 = .ok (.iinc 6 1, 3) := by decide +kernel
theorem d_Mo_findLoops_106 : decode prog_14_method_14_code 106 = .ok (.iinc 7 1, 3) := by decide +kernel
theorem d_Mo_findLoops_109 : decode prog_14_method_14_code 109 = .ok (.goto (-77), 3) := by decide +kernel
theorem d_Mo_findLoops_112 : decode prog_14_method_14_code 112 = .ok (.iload 6, 2) := by decide +kernel
theorem d_Mo_findLoops_114 : decode prog_14_method_14_code 114 = .ok (.ireturn, 1) := by decide +kernel
theorem d_Mo_isFolding_0 : decode prog_14_method_16_code 0 = .ok (.iconst 0, 1) := by decide +kernel
theorem d_Mo_isFolding_1 : decode prog_14_method_16_code 1 = .ok (.istore 4, 2) := by decide +kernel
theorem d_Mo_isFolding_3 : decode prog_14_method_16_code 3 = .ok (.iload 4, 2) := by decide +kernel
theorem d_Mo_isFolding_5 : decode prog_14_method_16_code 5 = .ok (.iload_n 3, 1) := by decide +kernel
theorem d_Mo_isFolding_6 : decode prog_14_method_16_code 6 = .ok (.if_icmp .ge 22, 3) := by decide +kernel
theorem d_Mo_isFolding_9 : decode prog_14_method_16_code 9 = .ok (.aload_n 0, 1) := by decide +kernel
theorem d_Mo_isFolding_10 : decode prog_14_method_16_code 10 = .ok (.getfield 49, 3) := by decide +kernel
theorem d_Mo_isFolding_13 : decode prog_14_method_16_code 13 = .ok (.aload_n 1, 1) := by decide +kernel
theorem d_Mo_isFolding_14 : decode prog_14_method_16_code 14 = .ok (.iload_n 2, 1) := by decide +kernel
theorem d_Mo_isFolding_15 : decode prog_14_method_16_code 15 = .ok (.iload 4, 2) := by decide +kernel
theorem d_Mo_isFolding_17 : decode prog_14_method_16_code 17 = .ok (.iadd, 1) := by decide +kernel
theorem d_Mo_isFolding_18 : decode prog_14_method_16_code 18 = .ok (.iaload, 1) := by decide +kernel
theorem d_Mo_isFolding_19 : decode prog_14_method_16_code 19 = .ok (.iload 4, 2) := by decide +kernel
theorem d_Mo_isFolding_21 : decode prog_14_method_16_code 21 = .ok (.iastore, 1) := by decide +kernel
theorem d_Mo_isFolding_22 : decode prog_14_method_16_code 22 = .ok (.iinc 4 1, 3) := by decide +kernel
theorem d_Mo_isFolding_25 : decode prog_14_method_16_code 25 = .ok (.goto (-22), 3) := by decide +kernel
theorem d_Mo_isFolding_28 : decode prog_14_method_16_code 28 = .ok (.iconst 0, 1) := by decide +kernel
theorem d_Mo_isFolding_29 : decode prog_14_method_16_code 29 = .ok (.istore 4, 2) := by decide +kernel
theorem d_Mo_isFolding_31 : decode prog_14_method_16_code 31 = .ok (.iload 4, 2) := by decide +kernel
theorem d_Mo_isFolding_33 : decode prog_14_method_16_code 33 = .ok (.iconst 1, 1) := by decide +kernel
theorem d_Mo_isFolding_34 : decode prog_14_method_16_code 34 = .ok (.iadd, 1) := by decide +kernel
theorem d_Mo_isFolding_35 : decode prog_14_method_16_code 35 = .ok (.iload_n 3, 1) := by decide +kernel
theorem d_Mo_isFolding_36 : decode prog_14_method_16_code 36 = .ok (.if_icmp .ge 196, 3) := by decide +kernel
theorem d_Mo_isFolding_39 : decode prog_14_method_16_code 39 = .ok (.aload_n 0, 1) := by decide +kernel
theorem d_Mo_isFolding_40 : decode prog_14_method_16_code 40 = .ok (.getfield 49, 3) := by decide +kernel
theorem d_Mo_isFolding_43 : decode prog_14_method_16_code 43 = .ok (.iload 4, 2) := by decide +kernel
theorem d_Mo_isFolding_45 : decode prog_14_method_16_code 45 = .ok (.iaload, 1) := by decide +kernel
theorem d_Mo_isFolding_46 : decode prog_14_method_16_code 46 = .ok (.aload_n 0, 1) := by decide +kernel
theorem d_Mo_isFolding_47 : decode prog_14_method_16_code 47 = .ok (.getfield 49, 3) := by decide +kernel
theorem d_Mo_isFolding_50 : decode prog_14_method_16_code 50 = .ok (.iload 4, 2) := by decide +kernel
theorem d_Mo_isFolding_52 : decode prog_14_method_16_code 52 = .ok (.iconst 1, 1) := by decide +kernel
theorem d_Mo_isFolding_53 : decode prog_14_method_16_code 53 = .ok (.iadd, 1) := by decide +kernel
theorem d_Mo_isFolding_54 : decode prog_14_method_16_code 54 = .ok (.iaload, 1) := by decide +kernel
theorem d_Mo_isFolding_55 : decode prog_14_method_16_code 55 = .ok (.if_icmp .ge 13, 3) := by decide +kernel
theorem d_Mo_isFolding_58 : decode prog_14_method_16_code 58 = .ok (.aload_n 0, 1) := by decide +kernel
theorem d_Mo_isFolding_59 : decode prog_14_method_16_code 59 = .ok (.getfield 49, 3) := by decide +kernel
theorem d_Mo_isFolding_62 : decode prog_14_method_16_code 62 = .ok (.iload 4, 2) := by decide +kernel
theorem d_Mo_isFolding_64 : decode prog_14_method_16_code 64 = .ok (.iaload, 1) := by decide +kernel
theorem d_Mo_isFolding_65 : decode prog_14_method_16_code 65 = .ok (.goto 12, 3) := by decide +kernel
theorem d_Mo_isFolding_68 : decode prog_14_method_16_code 68 = .ok (.aload_n 0, 1) := by decide +kernel
theorem d_Mo_isFolding_69 : decode prog_14_method_16_code 69 = .ok (.getfield 49, 3) := by decide +kernel
theorem d_Mo_isFolding_72 : decode prog_14_method_16_code 72 = .ok (.iload 4, 2) := by decide +kernel
theorem d_Mo_isFolding_74 : decode prog_14_method_16_code 74 = .ok (.iconst 1, 1) := by decide +kernel
theorem d_Mo_isFolding_75 : decode prog_14_method_16_code 75 = .ok (.iadd, 1) := by decide +kernel
theorem d_Mo_isFolding_76 : decode prog_14_method_16_code 76 = .ok (.iaload, 1) := by decide +kernel
theorem d_Mo_isFolding_77 : decode prog_14_method_16_code 77 = .ok (.istore 5, 2) := by decide +kernel
theorem d_Mo_isFolding_79 : decode prog_14_method_16_code 79 = .ok (.aload_n 0, 1) := by decide +kernel
theorem d_Mo_isFolding_80 : decode prog_14_method_16_code 80 = .ok (.getfield 49, 3) := by decide +kernel
theorem d_Mo_isFolding_83 : decode prog_14_method_16_code 83 = .ok (.iload 4, 2) := by decide +kernel
theorem d_Mo_isFolding_85 : decode prog_14_method_16_code 85 = .ok (.iaload, 1) := by decide +kernel
theorem d_Mo_isFolding_86 : decode prog_14_method_16_code 86 = .ok (.aload_n 0, 1) := by decide +kernel
theorem d_Mo_isFolding_87 : decode prog_14_method_16_code 87 = .ok (.getfield 49, 3) := by decide +kernel
theorem d_Mo_isFolding_90 : decode prog_14_method_16_code 90 = .ok (.iload 4, 2) := by decide +kernel
theorem d_Mo_isFolding_92 : decode prog_14_method_16_code 92 = .ok (.iconst 1, 1) := by decide +kernel
theorem d_Mo_isFolding_93 : decode prog_14_method_16_code 93 = .ok (.iadd, 1) := by decide +kernel
theorem d_Mo_isFolding_94 : decode prog_14_method_16_code 94 = .ok (.iaload, 1) := by decide +kernel
theorem d_Mo_isFolding_95 : decode prog_14_method_16_code 95 = .ok (.if_icmp .ge 15, 3) := by decide +kernel
theorem d_Mo_isFolding_98 : decode prog_14_method_16_code 98 = .ok (.aload_n 0, 1) := by decide +kernel
theorem d_Mo_isFolding_99 : decode prog_14_method_16_code 99 = .ok (.getfield 49, 3) := by decide +kernel
theorem d_Mo_isFolding_102 : decode prog_14_method_16_code 102 = .ok (.iload 4, 2) := by decide +kernel
theorem d_Mo_isFolding_104 : decode prog_14_method_16_code 104 = .ok (.iconst 1, 1) := by decide +kernel
theorem d_Mo_isFolding_105 : decode prog_14_method_16_code 105 = .ok (.iadd, 1) := by decide +kernel
theorem d_Mo_isFolding_106 : decode prog_14_method_16_code 106 = .ok (.iaload, 1) := by decide +kernel
theorem d_Mo_isFolding_107 : decode prog_14_method_16_code 107 = .ok (.goto 10, 3) := by decide +kernel
theorem d_Mo_isFolding_110 : decode prog_14_method_16_code 110 = .ok (.aload_n 0, 1) := by decide +kernel
theorem d_Mo_isFolding_111 : decode prog_14_method_16_code 111 = .ok (.getfield 49, 3) := by decide +kernel
theorem d_Mo_isFolding_114 : decode prog_14_method_16_code 114 = .ok (.iload 4, 2) := by decide +kernel
theorem d_Mo_isFolding_116 : decode prog_14_method_16_code 116 = .ok (.iaload, 1) := by decide +kernel
theorem d_Mo_isFolding_117 : decode prog_14_method_16_code 117 = .ok (.istore 6, 2) := by decide +kernel
theorem d_Mo_isFolding_119 : decode prog_14_method_16_code 119 = .ok (.iload 4, 2) := by decide +kernel
theorem d_Mo_isFolding_121 : decode prog_14_method_16_code 121 = .ok (.iconst 2, 1) := by decide +kernel
theorem d_Mo_isFolding_122 : decode prog_14_method_16_code 122 = .ok (.iadd, 1) := by decide +kernel
theorem d_Mo_isFolding_123 : decode prog_14_method_16_code 123 = .ok (.istore 7, 2) := by decide +kernel
theorem d_Mo_isFolding_125 : decode prog_14_method_16_code 125 = .ok (.iload 7, 2) := by decide +kernel
theorem d_Mo_isFolding_127 : decode prog_14_method_16_code 127 = .ok (.iconst 1, 1) := by decide +kernel
theorem d_Mo_isFolding_128 : decode prog_14_method_16_code 128 = .ok (.iadd, 1) := by decide +kernel
theorem d_Mo_isFolding_129 : decode prog_14_method_16_code 129 = .ok (.iload_n 3, 1) := by decide +kernel
theorem d_Mo_isFolding_130 : decode prog_14_method_16_code 130 = .ok (.if_icmp .ge 96, 3) := by decide +kernel
theorem d_Mo_isFolding_133 : decode prog_14_method_16_code 133 = .ok (.aload_n 0, 1) := by decide +kernel
theorem d_Mo_isFolding_134 : decode prog_14_method_16_code 134 = .ok (.getfield 49, 3) := by decide +kernel
theorem d_Mo_isFolding_137 : decode prog_14_method_16_code 137 = .ok (.iload 7, 2) := by decide +kernel
theorem d_Mo_isFolding_139 : decode prog_14_method_16_code 139 = .ok (.iaload, 1) := by decide +kernel
theorem d_Mo_isFolding_140 : decode prog_14_method_16_code 140 = .ok (.iload 5, 2) := by decide +kernel
theorem d_Mo_isFolding_142 : decode prog_14_method_16_code 142 = .ok (.if_icmp .le 19, 3) := by decide +kernel
theorem d_Mo_isFolding_145 : decode prog_14_method_16_code 145 = .ok (.aload_n 0, 1) := by decide +kernel
theorem d_Mo_isFolding_146 : decode prog_14_method_16_code 146 = .ok (.getfield 49, 3) := by decide +kernel
theorem d_Mo_isFolding_149 : decode prog_14_method_16_code 149 = .ok (.iload 7, 2) := by decide +kernel
theorem d_Mo_isFolding_151 : decode prog_14_method_16_code 151 = .ok (.iaload, 1) := by decide +kernel
theorem d_Mo_isFolding_152 : decode prog_14_method_16_code 152 = .ok (.iload 6, 2) := by decide +kernel
theorem d_Mo_isFolding_154 : decode prog_14_method_16_code 154 = .ok (.if_icmp .ge 7, 3) := by decide +kernel
theorem d_Mo_isFolding_157 : decode prog_14_method_16_code 157 = .ok (.iconst 1, 1) := by decide +kernel
theorem d_Mo_isFolding_158 : decode prog_14_method_16_code 158 = .ok (.goto 4, 3) := by decide +kernel
theorem d_Mo_isFolding_161 : decode prog_14_method_16_code 161 = .ok (.iconst 0, 1) := by decide +kernel
theorem d_Mo_isFolding_162 : decode prog_14_method_16_code 162 = .ok (.istore 8, 2) := by decide +kernel
theorem d_Mo_isFolding_164 : decode prog_14_method_16_code 164 = .ok (.aload_n 0, 1) := by decide +kernel
theorem d_Mo_isFolding_165 : decode prog_14_method_16_code 165 = .ok (.getfield 49, 3) := by decide +kernel
theorem d_Mo_isFolding_168 : decode prog_14_method_16_code 168 = .ok (.iload 7, 2) := by decide +kernel
theorem d_Mo_isFolding_170 : decode prog_14_method_16_code 170 = .ok (.iconst 1, 1) := by decide +kernel
theorem d_Mo_isFolding_171 : decode prog_14_method_16_code 171 = .ok (.iadd, 1) := by decide +kernel
theorem d_Mo_isFolding_172 : decode prog_14_method_16_code 172 = .ok (.iaload, 1) := by decide +kernel
theorem d_Mo_isFolding_173 : decode prog_14_method_16_code 173 = .ok (.iload 5, 2) := by decide +kernel
theorem d_Mo_isFolding_175 : decode prog_14_method_16_code 175 = .ok (.if_icmp .le 21, 3) := by decide +kernel
theorem d_Mo_isFolding_178 : decode prog_14_method_16_code 178 = .ok (.aload_n 0, 1) := by decide +kernel
theorem d_Mo_isFolding_179 : decode prog_14_method_16_code 179 = .ok (.getfield 49, 3) := by decide +kernel
theorem d_Mo_isFolding_182 : decode prog_14_method_16_code 182 = .ok (.iload 7, 2) := by decide +kernel
theorem d_Mo_isFolding_184 : decode prog_14_method_16_code 184 = .ok (.iconst 1, 1) := by decide +kernel
theorem d_Mo_isFolding_185 : decode prog_14_method_16_code 185 = .ok (.iadd, 1) := by decide +kernel
theorem d_Mo_isFolding_186 : decode prog_14_method_16_code 186 = .ok (.iaload, 1) := by decide +kernel
theorem d_Mo_isFolding_187 : decode prog_14_method_16_code 187 = .ok (.iload 6, 2) := by decide +kernel
theorem d_Mo_isFolding_189 : decode prog_14_method_16_code 189 = .ok (.if_icmp .ge 7, 3) := by decide +kernel
theorem d_Mo_isFolding_192 : decode prog_14_method_16_code 192 = .ok (.iconst 1, 1) := by decide +kernel
theorem d_Mo_isFolding_193 : decode prog_14_method_16_code 193 = .ok (.goto 4, 3) := by decide +kernel
theorem d_Mo_isFolding_196 : decode prog_14_method_16_code 196 = .ok (.iconst 0, 1) := by decide +kernel
theorem d_Mo_isFolding_197 : decode prog_14_method_16_code 197 = .ok (.istore 9, 2) := by decide +kernel
theorem d_Mo_isFolding_199 : decode prog_14_method_16_code 199 = .ok (.iload 8, 2) := by decide +kernel
theorem d_Mo_isFolding_201 : decode prog_14_method_16_code 201 = .ok (.iload 9, 2) := by decide +kernel
theorem d_Mo_isFolding_203 : decode prog_14_method_16_code 203 = .ok (.if_icmp .eq 17, 3) := by decide +kernel
theorem d_Mo_isFolding_206 : decode prog_14_method_16_code 206 = .ok (.aload_n 0, 1) := by decide +kernel
theorem d_Mo_isFolding_207 : decode prog_14_method_16_code 207 = .ok (.iload 4, 2) := by decide +kernel
theorem d_Mo_isFolding_209 : decode prog_14_method_16_code 209 = .ok (.putfield 130, 3) := by decide +kernel
theorem d_Mo_isFolding_212 : decode prog_14_method_16_code 212 = .ok (.aload_n 0, 1) := by decide +kernel
theorem d_Mo_isFolding_213 : decode prog_14_method_16_code 213 = .ok (.iload 7, 2) := by decide +kernel
theorem d_Mo_isFolding_215 : decode prog_14_method_16_code 215 = .ok (.putfield 133, 3) := by decide +kernel
theorem d_Mo_isFolding_218 : decode prog_14_method_16_code 218 = .ok (.iconst 0, 1) := by decide +kernel
theorem d_Mo_isFolding_219 : decode prog_14_method_16_code 219 = .ok (.ireturn, 1) := by decide +kernel
theorem d_Mo_isFolding_220 : decode prog_14_method_16_code 220 = .ok (.iinc 7 2, 3) := by decide +kernel
theorem d_Mo_isFolding_223 : decode prog_14_method_16_code 223 = .ok (.goto (-98), 3) := by decide +kernel
theorem d_Mo_isFolding_226 : decode prog_14_method_16_code 226 = .ok (.iinc 4 1, 3) := by decide +kernel
theorem d_Mo_isFolding_229 : decode prog_14_method_16_code 229 = .ok (.goto (-198), 3) := by decide +kernel
theorem d_Mo_isFolding_232 : decode prog_14_method_16_code 232 = .ok (.aload_n 0, 1) := by decide +kernel
theorem d_Mo_isFolding_233 : decode prog_14_method_16_code 233 = .ok (.ldc 136, 2) := by decide +kernel
theorem d_Mo_isFolding_235 : decode prog_14_method_16_code 235 = .ok (.putfield 130, 3) := by decide +kernel
theorem d_Mo_isFolding_238 : decode prog_14_method_16_code 238 = .ok (.aload_n 0, 1) := by decide +kernel
theorem d_Mo_isFolding_239 : decode prog_14_method_16_code 239 = .ok (.ldc 136, 2) := by decide +kernel
theorem d_Mo_isFolding_241 : decode prog_14_method_16_code 241 = .ok (.putfield 133, 3) := by decide +kernel
theorem d_Mo_isFolding_244 : decode prog_14_method_16_code 244 = .ok (.iconst 1, 1) := by decide +kernel
theorem d_Mo_isFolding_245 : decode prog_14_method_16_code 245 = .ok (.ireturn, 1) := by decide +kernel
theorem d_Mo_copyThing_0 : decode prog_14_method_17_code 0 = .ok (.aload_n 0, 1) := by decide +kernel
theorem d_Mo_copyThing_1 : decode prog_14_method_17_code 1 = .ok (.getfield 22, 3) := by decide +kernel
theorem d_Mo_copyThing_4 : decode prog_14_method_17_code 4 = .ok (.iload_n 1, 1) := by decide +kernel
theorem d_Mo_copyThing_5 : decode prog_14_method_17_code 5 = .ok (.aload_n 0, 1) := by decide +kernel
theorem d_Mo_copyThing_6 : decode prog_14_method_17_code 6 = .ok (.getfield 22, 3) := by decide +kernel
theorem d_Mo_copyThing_9 : decode prog_14_method_17_code 9 = .ok (.iload_n 2, 1) := by decide +kernel
theorem d_Mo_copyThing_10 : decode prog_14_method_17_code 10 = .ok (.iaload, 1) := by decide +kernel
theorem d_Mo_copyThing_11 : decode prog_14_method_17_code 11 = .ok (.iastore, 1) := by decide +kernel
theorem d_Mo_copyThing_12 : decode prog_14_method_17_code 12 = .ok (.aload_n 0, 1) := by decide +kernel
theorem d_Mo_copyThing_13 : decode prog_14_method_17_code 13 = .ok (.getfield 25, 3) := by decide +kernel
theorem d_Mo_copyThing_16 : decode prog_14_method_17_code 16 = .ok (.iload_n 1, 1) := by decide +kernel
theorem d_Mo_copyThing_17 : decode prog_14_method_17_code 17 = .ok (.aload_n 0, 1) := by decide +kernel
theorem d_Mo_copyThing_18 : decode prog_14_method_17_code 18 = .ok (.getfield 25, 3) := by decide +kernel
theorem d_Mo_copyThing_21 : decode prog_14_method_17_code 21 = .ok (.iload_n 2, 1) := by decide +kernel
theorem d_Mo_copyThing_22 : decode prog_14_method_17_code 22 = .ok (.iaload, 1) := by decide +kernel
theorem d_Mo_copyThing_23 : decode prog_14_method_17_code 23 = .ok (.iastore, 1) := by decide +kernel
theorem d_Mo_copyThing_24 : decode prog_14_method_17_code 24 = .ok (.iconst 0, 1) := by decide +kernel
theorem d_Mo_copyThing_25 : decode prog_14_method_17_code 25 = .ok (.istore_n 3, 1) := by decide +kernel
theorem d_Mo_copyThing_26 : decode prog_14_method_17_code 26 = .ok (.iload_n 3, 1) := by decide +kernel
theorem d_Mo_copyThing_27 : decode prog_14_method_17_code 27 = .ok (.bipush 40, 2) := by decide +kernel
theorem d_Mo_copyThing_29 : decode prog_14_method_17_code 29 = .ok (.if_icmp .ge 97, 3) := by decide +kernel
theorem d_Mo_copyThing_32 : decode prog_14_method_17_code 32 = .ok (.aload_n 0, 1) := by decide +kernel
theorem d_Mo_copyThing_33 : decode prog_14_method_17_code 33 = .ok (.getfield 28, 3) := by decide +kernel
theorem d_Mo_copyThing_36 : decode prog_14_method_17_code 36 = .ok (.bipush 40, 2) := by decide +kernel
theorem d_Mo_copyThing_38 : decode prog_14_method_17_code 38 = .ok (.iload_n 1, 1) := by decide +kernel
theorem d_Mo_copyThing_39 : decode prog_14_method_17_code 39 = .ok (.imul, 1) := by decide +kernel
theorem d_Mo_copyThing_40 : decode prog_14_method_17_code 40 = .ok (.iload_n 3, 1) := by decide +kernel
theorem d_Mo_copyThing_41 : decode prog_14_method_17_code 41 = .ok (.iadd, 1) := by decide +kernel
theorem d_Mo_copyThing_42 : decode prog_14_method_17_code 42 = .ok (.aload_n 0, 1) := by decide +kernel
theorem d_Mo_copyThing_43 : decode prog_14_method_17_code 43 = .ok (.getfield 28, 3) := by decide +kernel
theorem d_Mo_copyThing_46 : decode prog_14_method_17_code 46 = .ok (.bipush 40, 2) := by decide +kernel
theorem d_Mo_copyThing_48 : decode prog_14_method_17_code 48 = .ok (.iload_n 2, 1) := by decide +kernel
theorem d_Mo_copyThing_49 : decode prog_14_method_17_code 49 = .ok (.imul, 1) := by decide +kernel
theorem d_Mo_copyThing_50 : decode prog_14_method_17_code 50 = .ok (.iload_n 3, 1) := by decide +kernel
theorem d_Mo_copyThing_51 : decode prog_14_method_17_code 51 = .ok (.iadd, 1) := by decide +kernel
theorem d_Mo_copyThing_52 : decode prog_14_method_17_code 52 = .ok (.iaload, 1) := by decide +kernel
theorem d_Mo_copyThing_53 : decode prog_14_method_17_code 53 = .ok (.iastore, 1) := by decide +kernel
theorem d_Mo_copyThing_54 : decode prog_14_method_17_code 54 = .ok (.aload_n 0, 1) := by decide +kernel
theorem d_Mo_copyThing_55 : decode prog_14_method_17_code 55 = .ok (.getfield 31, 3) := by decide +kernel
theorem d_Mo_copyThing_58 : decode prog_14_method_17_code 58 = .ok (.bipush 40, 2) := by decide +kernel
theorem d_Mo_copyThing_60 : decode prog_14_method_17_code 60 = .ok (.iload_n 1, 1) := by decide +kernel
theorem d_Mo_copyThing_61 : decode prog_14_method_17_code 61 = .ok (.imul, 1) := by decide +kernel
theorem d_Mo_copyThing_62 : decode prog_14_method_17_code 62 = .ok (.iload_n 3, 1) := by decide +kernel
theorem d_Mo_copyThing_63 : decode prog_14_method_17_code 63 = .ok (.iadd, 1) := by decide +kernel
theorem d_Mo_copyThing_64 : decode prog_14_method_17_code 64 = .ok (.aload_n 0, 1) := by decide +kernel
theorem d_Mo_copyThing_65 : decode prog_14_method_17_code 65 = .ok (.getfield 31, 3) := by decide +kernel
theorem d_Mo_copyThing_68 : decode prog_14_method_17_code 68 = .ok (.bipush 40, 2) := by decide +kernel
theorem d_Mo_copyThing_70 : decode prog_14_method_17_code 70 = .ok (.iload_n 2, 1) := by decide +kernel
theorem d_Mo_copyThing_71 : decode prog_14_method_17_code 71 = .ok (.imul, 1) := by decide +kernel
theorem d_Mo_copyThing_72 : decode prog_14_method_17_code 72 = .ok (.iload_n 3, 1) := by decide +kernel
theorem d_Mo_copyThing_73 : decode prog_14_method_17_code 73 = .ok (.iadd, 1) := by decide +kernel
theorem d_Mo_copyThing_74 : decode prog_14_method_17_code 74 = .ok (.iaload, 1) := by decide +kernel
theorem d_Mo_copyThing_75 : decode prog_14_method_17_code 75 = .ok (.iastore, 1) := by decide +kernel
theorem d_Mo_copyThing_76 : decode prog_14_method_17_code 76 = .ok (.aload_n 0, 1) := by decide +kernel
theorem d_Mo_copyThing_77 : decode prog_14_method_17_code 77 = .ok (.getfield 34, 3) := by decide +kernel
theorem d_Mo_copyThing_80 : decode prog_14_method_17_code 80 = .ok (.bipush 40, 2) := by decide +kernel
theorem d_Mo_copyThing_82 : decode prog_14_method_17_code 82 = .ok (.iload_n 1, 1) := by decide +kernel
theorem d_Mo_copyThing_83 : decode prog_14_method_17_code 83 = .ok (.imul, 1) := by decide +kernel
theorem d_Mo_copyThing_84 : decode prog_14_method_17_code 84 = .ok (.iload_n 3, 1) := by decide +kernel
theorem d_Mo_copyThing_85 : decode prog_14_method_17_code 85 = .ok (.iadd, 1) := by decide +kernel
theorem d_Mo_copyThing_86 : decode prog_14_method_17_code 86 = .ok (.aload_n 0, 1) := by decide +kernel
theorem d_Mo_copyThing_87 : decode prog_14_method_17_code 87 = .ok (.getfield 34, 3) := by decide +kernel
theorem d_Mo_copyThing_90 : decode prog_14_method_17_code 90 = .ok (.bipush 40, 2) := by decide +kernel
theorem d_Mo_copyThing_92 : decode prog_14_method_17_code 92 = .ok (.iload_n 2, 1) := by decide +kernel
theorem d_Mo_copyThing_93 : decode prog_14_method_17_code 93 = .ok (.imul, 1) := by decide +kernel
theorem d_Mo_copyThing_94 : decode prog_14_method_17_code 94 = .ok (.iload_n 3, 1) := by decide +kernel
theorem d_Mo_copyThing_95 : decode prog_14_method_17_code 95 = .ok (.iadd, 1) := by decide +kernel
theorem d_Mo_copyThing_96 : decode prog_14_method_17_code 96 = .ok (.iaload, 1) := by decide +kernel
theorem d_Mo_copyThing_97 : decode prog_14_method_17_code 97 = .ok (.iastore, 1) := by decide +kernel
theorem d_Mo_copyThing_98 : decode prog_14_method_17_code 98 = .ok (.aload_n 0, 1) := by decide +kernel
theorem d_Mo_copyThing_99 : decode prog_14_method_17_code 99 = .ok (.getfield 37, 3) := by decide +kernel
theorem d_Mo_copyThing_102 : decode prog_14_method_17_code 102 = .ok (.bipush 40, 2) := by decide +kernel
theorem d_Mo_copyThing_104 : decode prog_14_method_17_code 104 = .ok (.iload_n 1, 1) := by decide +kernel
theorem d_Mo_copyThing_105 : decode prog_14_method_17_code 105 = .ok (.imul, 1) := by decide +kernel
theorem d_Mo_copyThing_106 : decode prog_14_method_17_code 106 = .ok (.iload_n 3, 1) := by decide +kernel
theorem d_Mo_copyThing_107 : decode prog_14_method_17_code 107 = .ok (.iadd, 1) := by decide +kernel
theorem d_Mo_copyThing_108 : decode prog_14_method_17_code 108 = .ok (.aload_n 0, 1) := by decide +kernel
theorem d_Mo_copyThing_109 : decode prog_14_method_17_code 109 = .ok (.getfield 37, 3) := by decide +kernel
theorem d_Mo_copyThing_112 : decode prog_14_method_17_code 112 = .ok (.bipush 40, 2) := by decide +kernel
theorem d_Mo_copyThing_114 : decode prog_14_method_17_code 114 = .ok (.iload_n 2, 1) := by decide +kernel
theorem d_Mo_copyThing_115 : decode prog_14_method_17_code 115 = .ok (.imul, 1) := by decide +kernel
theorem d_Mo_copyThing_116 : decode prog_14_method_17_code 116 = .ok (.iload_n 3, 1) := by decide +kernel
theorem d_Mo_copyThing_117 : decode prog_14_method_17_code 117 = .ok (.iadd, 1) := by decide +kernel
theorem d_Mo_copyThing_118 : decode prog_14_method_17_code 118 = .ok (.iaload, 1) := by decide +kernel
theorem d_Mo_copyThing_119 : decode prog_14_method_17_code 119 = .ok (.iastore, 1) := by decide +kernel
theorem d_Mo_copyThing_120 : decode prog_14_method_17_code 120 = .ok (.iinc 3 1, 3) := by decide +kernel
theorem d_Mo_copyThing_123 : decode prog_14_method_17_code 123 = .ok (.goto (-97), 3) := by decide +kernel
theorem d_Mo_copyThing_126 : decode prog_14_method_17_code 126 = .ok (.return_, 1) := by decide +kernel
theorem d_Mo_land_0 : decode prog_14_method_21_code 0 = .ok (.iload_n 1, 1) := by decide +kernel
theorem d_Mo_land_1 : decode prog_14_method_21_code 1 = .ok (.invokestatic 152, 3) := by decide +kernel
theorem d_Mo_land_4 : decode prog_14_method_21_code 4 = .ok (.ifCond .eq 17, 3) := by decide +kernel
theorem d_Mo_land_7 : decode prog_14_method_21_code 7 = .ok (.iload_n 2, 1) := by decide +kernel
theorem d_Mo_land_8 : decode prog_14_method_21_code 8 = .ok (.invokestatic 152, 3) := by decide +kernel
theorem d_Mo_land_11 : decode prog_14_method_21_code 11 = .ok (.ifCond .eq 10, 3) := by decide +kernel
theorem d_Mo_land_14 : decode prog_14_method_21_code 14 = .ok (.iload_n 3, 1) := by decide +kernel
theorem d_Mo_land_15 : decode prog_14_method_21_code 15 = .ok (.invokestatic 152, 3) := by decide +kernel
theorem d_Mo_land_18 : decode prog_14_method_21_code 18 = .ok (.ifCond .ne 6, 3) := by decide +kernel
theorem d_Mo_land_21 : decode prog_14_method_21_code 21 = .ok (.ldc 112, 2) := by decide +kernel
theorem d_Mo_land_23 : decode prog_14_method_21_code 23 = .ok (.ireturn, 1) := by decide +kernel
theorem d_Mo_land_24 : decode prog_14_method_21_code 24 = .ok (.aload_n 0, 1) := by decide +kernel
theorem d_Mo_land_25 : decode prog_14_method_21_code 25 = .ok (.iload_n 2, 1) := by decide +kernel
theorem d_Mo_land_26 : decode prog_14_method_21_code 26 = .ok (.iconst 2, 1) := by decide +kernel
theorem d_Mo_land_27 : decode prog_14_method_21_code 27 = .ok (.invokevirtual 165, 3) := by decide +kernel
theorem d_Mo_land_30 : decode prog_14_method_21_code 30 = .ok (.istore 4, 2) := by decide +kernel
theorem d_Mo_land_32 : decode prog_14_method_21_code 32 = .ok (.iload 4, 2) := by decide +kernel
theorem d_Mo_land_34 : decode prog_14_method_21_code 34 = .ok (.ifCond .ne 12, 3) := by decide +kernel
theorem d_Mo_land_37 : decode prog_14_method_21_code 37 = .ok (.aload_n 0, 1) := by decide +kernel
theorem d_Mo_land_38 : decode prog_14_method_21_code 38 = .ok (.iload_n 3, 1) := by decide +kernel
theorem d_Mo_land_39 : decode prog_14_method_21_code 39 = .ok (.iconst 2, 1) := by decide +kernel
theorem d_Mo_land_40 : decode prog_14_method_21_code 40 = .ok (.invokevirtual 165, 3) := by decide +kernel
theorem d_Mo_land_43 : decode prog_14_method_21_code 43 = .ok (.goto 5, 3) := by decide +kernel
theorem d_Mo_land_46 : decode prog_14_method_21_code 46 = .ok (.iload 4, 2) := by decide +kernel
theorem d_Mo_land_48 : decode prog_14_method_21_code 48 = .ok (.istore 4, 2) := by decide +kernel
theorem d_Mo_land_50 : decode prog_14_method_21_code 50 = .ok (.iload 4, 2) := by decide +kernel
theorem d_Mo_land_52 : decode prog_14_method_21_code 52 = .ok (.ifCond .eq 6, 3) := by decide +kernel
theorem d_Mo_land_55 : decode prog_14_method_21_code 55 = .ok (.iload 4, 2) := by decide +kernel
theorem d_Mo_land_57 : decode prog_14_method_21_code 57 = .ok (.ireturn, 1) := by decide +kernel
theorem d_Mo_land_58 : decode prog_14_method_21_code 58 = .ok (.aload_n 0, 1) := by decide +kernel
theorem d_Mo_land_59 : decode prog_14_method_21_code 59 = .ok (.getfield 25, 3) := by decide +kernel
theorem d_Mo_land_62 : decode prog_14_method_21_code 62 = .ok (.iload_n 2, 1) := by decide +kernel
theorem d_Mo_land_63 : decode prog_14_method_21_code 63 = .ok (.iaload, 1) := by decide +kernel
theorem d_Mo_land_64 : decode prog_14_method_21_code 64 = .ok (.aload_n 0, 1) := by decide +kernel
theorem d_Mo_land_65 : decode prog_14_method_21_code 65 = .ok (.getfield 25, 3) := by decide +kernel
theorem d_Mo_land_68 : decode prog_14_method_21_code 68 = .ok (.iload_n 3, 1) := by decide +kernel
theorem d_Mo_land_69 : decode prog_14_method_21_code 69 = .ok (.iaload, 1) := by decide +kernel
theorem d_Mo_land_70 : decode prog_14_method_21_code 70 = .ok (.if_icmp .eq 6, 3) := by decide +kernel
theorem d_Mo_land_73 : decode prog_14_method_21_code 73 = .ok (.ldc 112, 2) := by decide +kernel
theorem d_Mo_land_75 : decode prog_14_method_21_code 75 = .ok (.ireturn, 1) := by decide +kernel
theorem d_Mo_land_76 : decode prog_14_method_21_code 76 = .ok (.aload_n 0, 1) := by decide +kernel
theorem d_Mo_land_77 : decode prog_14_method_21_code 77 = .ok (.getfield 25, 3) := by decide +kernel
theorem d_Mo_land_80 : decode prog_14_method_21_code 80 = .ok (.bipush 10, 2) := by decide +kernel
theorem d_Mo_land_82 : decode prog_14_method_21_code 82 = .ok (.aload_n 0, 1) := by decide +kernel
theorem d_Mo_land_83 : decode prog_14_method_21_code 83 = .ok (.getfield 25, 3) := by decide +kernel
theorem d_Mo_land_86 : decode prog_14_method_21_code 86 = .ok (.iload_n 2, 1) := by decide +kernel
theorem d_Mo_land_87 : decode prog_14_method_21_code 87 = .ok (.iaload, 1) := by decide +kernel
theorem d_Mo_land_88 : decode prog_14_method_21_code 88 = .ok (.iastore, 1) := by decide +kernel
theorem d_Mo_land_89 : decode prog_14_method_21_code 89 = .ok (.iconst 0, 1) := by decide +kernel
theorem d_Mo_land_90 : decode prog_14_method_21_code 90 = .ok (.istore 5, 2) := by decide +kernel
theorem d_Mo_land_92 : decode prog_14_method_21_code 92 = .ok (.iload 5, 2) := by decide +kernel
theorem d_Mo_land_94 : decode prog_14_method_21_code 94 = .ok (.bipush 40, 2) := by decide +kernel
theorem d_Mo_land_96 : decode prog_14_method_21_code 96 = .ok (.if_icmp .ge 55, 3) := by decide +kernel
theorem d_Mo_land_99 : decode prog_14_method_21_code 99 = .ok (.aload_n 0, 1) := by decide +kernel
theorem d_Mo_land_100 : decode prog_14_method_21_code 100 = .ok (.getfield 28, 3) := by decide +kernel
theorem d_Mo_land_103 : decode prog_14_method_21_code 103 = .ok (.sipush 400, 3) := by decide +kernel
theorem d_Mo_land_106 : decode prog_14_method_21_code 106 = .ok (.iload 5, 2) := by decide +kernel
theorem d_Mo_land_108 : decode prog_14_method_21_code 108 = .ok (.iadd, 1) := by decide +kernel
theorem d_Mo_land_109 : decode prog_14_method_21_code 109 = .ok (.aload_n 0, 1) := by decide +kernel
theorem d_Mo_land_110 : decode prog_14_method_21_code 110 = .ok (.getfield 28, 3) := by decide +kernel
theorem d_Mo_land_113 : decode prog_14_method_21_code 113 = .ok (.bipush 40, 2) := by decide +kernel
theorem d_Mo_land_115 : decode prog_14_method_21_code 115 = .ok (.iload_n 2, 1) := by decide +kernel
theorem d_Mo_land_116 : decode prog_14_method_21_code 116 = .ok (.imul, 1) := by decide +kernel
theorem d_Mo_land_117 : decode prog_14_method_21_code 117 = .ok (.iload 5, 2) := by decide +kernel
theorem d_Mo_land_119 : decode prog_14_method_21_code 119 = .ok (.iadd, 1) := by decide +kernel
theorem d_Mo_land_120 : decode prog_14_method_21_code 120 = .ok (.iaload, 1) := by decide +kernel
theorem d_Mo_land_121 : decode prog_14_method_21_code 121 = .ok (.iastore, 1) := by decide +kernel
theorem d_Mo_land_122 : decode prog_14_method_21_code 122 = .ok (.aload_n 0, 1) := by decide +kernel
theorem d_Mo_land_123 : decode prog_14_method_21_code 123 = .ok (.getfield 31, 3) := by decide +kernel
theorem d_Mo_land_126 : decode prog_14_method_21_code 126 = .ok (.sipush 400, 3) := by decide +kernel
theorem d_Mo_land_129 : decode prog_14_method_21_code 129 = .ok (.iload 5, 2) := by decide +kernel
theorem d_Mo_land_131 : decode prog_14_method_21_code 131 = .ok (.iadd, 1) := by decide +kernel
theorem d_Mo_land_132 : decode prog_14_method_21_code 132 = .ok (.aload_n 0, 1) := by decide +kernel
theorem d_Mo_land_133 : decode prog_14_method_21_code 133 = .ok (.getfield 28, 3) := by decide +kernel
theorem d_Mo_land_136 : decode prog_14_method_21_code 136 = .ok (.bipush 40, 2) := by decide +kernel
theorem d_Mo_land_138 : decode prog_14_method_21_code 138 = .ok (.iload_n 3, 1) := by decide +kernel
theorem d_Mo_land_139 : decode prog_14_method_21_code 139 = .ok (.imul, 1) := by decide +kernel
theorem d_Mo_land_140 : decode prog_14_method_21_code 140 = .ok (.iload 5, 2) := by decide +kernel
theorem d_Mo_land_142 : decode prog_14_method_21_code 142 = .ok (.iadd, 1) := by decide +kernel
theorem d_Mo_land_143 : decode prog_14_method_21_code 143 = .ok (.iaload, 1) := by decide +kernel
theorem d_Mo_land_144 : decode prog_14_method_21_code 144 = .ok (.iastore, 1) := by decide +kernel
theorem d_Mo_land_145 : decode prog_14_method_21_code 145 = .ok (.iinc 5 1, 3) := by decide +kernel
theorem d_Mo_land_148 : decode prog_14_method_21_code 148 = .ok (.goto (-56), 3) := by decide +kernel
theorem d_Mo_land_151 : decode prog_14_method_21_code 151 = .ok (.aload_n 0, 1) := by decide +kernel
theorem d_Mo_land_152 : decode prog_14_method_21_code 152 = .ok (.iload_n 1, 1) := by decide +kernel
theorem d_Mo_land_153 : decode prog_14_method_21_code 153 = .ok (.iconst 5, 1) := by decide +kernel
theorem d_Mo_land_154 : decode prog_14_method_21_code 154 = .ok (.invokevirtual 157, 3) := by decide +kernel
theorem d_Mo_land_157 : decode prog_14_method_21_code 157 = .ok (.ireturn, 1) := by decide +kernel
theorem d_Mo_refusal_0 : decode prog_14_method_20_code 0 = .ok (.aload_n 0, 1) := by decide +kernel
theorem d_Mo_refusal_1 : decode prog_14_method_20_code 1 = .ok (.getfield 22, 3) := by decide +kernel
theorem d_Mo_refusal_4 : decode prog_14_method_20_code 4 = .ok (.iload_n 1, 1) := by decide +kernel
theorem d_Mo_refusal_5 : decode prog_14_method_20_code 5 = .ok (.iaload, 1) := by decide +kernel
theorem d_Mo_refusal_6 : decode prog_14_method_20_code 6 = .ok (.ifCond .ne 9, 3) := by decide +kernel
theorem d_Mo_refusal_9 : decode prog_14_method_20_code 9 = .ok (.aload_n 0, 1) := by decide +kernel
theorem d_Mo_refusal_10 : decode prog_14_method_20_code 10 = .ok (.iconst 1, 1) := by decide +kernel
theorem d_Mo_refusal_11 : decode prog_14_method_20_code 11 = .ok (.invokevirtual 113, 3) := by decide +kernel
theorem d_Mo_refusal_14 : decode prog_14_method_20_code 14 = .ok (.ireturn, 1) := by decide +kernel
theorem d_Mo_refusal_15 : decode prog_14_method_20_code 15 = .ok (.aload_n 0, 1) := by decide +kernel
theorem d_Mo_refusal_16 : decode prog_14_method_20_code 16 = .ok (.getfield 22, 3) := by decide +kernel
theorem d_Mo_refusal_19 : decode prog_14_method_20_code 19 = .ok (.iload_n 1, 1) := by decide +kernel
theorem d_Mo_refusal_20 : decode prog_14_method_20_code 20 = .ok (.iaload, 1) := by decide +kernel
theorem d_Mo_refusal_21 : decode prog_14_method_20_code 21 = .ok (.iload_n 2, 1) := by decide +kernel
theorem d_Mo_refusal_22 : decode prog_14_method_20_code 22 = .ok (.invokestatic 161, 3) := by decide +kernel
theorem d_Mo_refusal_25 : decode prog_14_method_20_code 25 = .ok (.ifCond .eq 7, 3) := by decide +kernel
theorem d_Mo_refusal_28 : decode prog_14_method_20_code 28 = .ok (.iconst 0, 1) := by decide +kernel
theorem d_Mo_refusal_29 : decode prog_14_method_20_code 29 = .ok (.goto 8, 3) := by decide +kernel
theorem d_Mo_refusal_32 : decode prog_14_method_20_code 32 = .ok (.aload_n 0, 1) := by decide +kernel
theorem d_Mo_refusal_33 : decode prog_14_method_20_code 33 = .ok (.iconst 3, 1) := by decide +kernel
theorem d_Mo_refusal_34 : decode prog_14_method_20_code 34 = .ok (.invokevirtual 113, 3) := by decide +kernel
theorem d_Mo_refusal_37 : decode prog_14_method_20_code 37 = .ok (.ireturn, 1) := by decide +kernel
theorem d_Mo_isOf_0 : decode prog_14_method_11_code 0 = .ok (.iload_n 0, 1) := by decide +kernel
theorem d_Mo_isOf_1 : decode prog_14_method_11_code 1 = .ok (.iload_n 1, 1) := by decide +kernel
theorem d_Mo_isOf_2 : decode prog_14_method_11_code 2 = .ok (.if_icmp .eq 59, 3) := by decide +kernel
theorem d_Mo_isOf_5 : decode prog_14_method_11_code 5 = .ok (.iload_n 0, 1) := by decide +kernel
theorem d_Mo_isOf_6 : decode prog_14_method_11_code 6 = .ok (.ifCond .le 59, 3) := by decide +kernel
theorem d_Mo_isOf_9 : decode prog_14_method_11_code 9 = .ok (.iload_n 1, 1) := by decide +kernel
theorem d_Mo_isOf_10 : decode prog_14_method_11_code 10 = .ok (.ifCond .eq 51, 3) := by decide +kernel
theorem d_Mo_isOf_13 : decode prog_14_method_11_code 13 = .ok (.iload_n 1, 1) := by decide +kernel
theorem d_Mo_isOf_14 : decode prog_14_method_11_code 14 = .ok (.iconst 1, 1) := by decide +kernel
theorem d_Mo_isOf_15 : decode prog_14_method_11_code 15 = .ok (.if_icmp .ne 8, 3) := by decide +kernel
theorem d_Mo_isOf_18 : decode prog_14_method_11_code 18 = .ok (.iload_n 0, 1) := by decide +kernel
theorem d_Mo_isOf_19 : decode prog_14_method_11_code 19 = .ok (.iconst 5, 1) := by decide +kernel
theorem d_Mo_isOf_20 : decode prog_14_method_11_code 20 = .ok (.if_icmp .lt 41, 3) := by decide +kernel
theorem d_Mo_isOf_23 : decode prog_14_method_11_code 23 = .ok (.iload_n 1, 1) := by decide +kernel
theorem d_Mo_isOf_24 : decode prog_14_method_11_code 24 = .ok (.iconst 2, 1) := by decide +kernel
theorem d_Mo_isOf_25 : decode prog_14_method_11_code 25 = .ok (.if_icmp .ne 13, 3) := by decide +kernel
theorem d_Mo_isOf_28 : decode prog_14_method_11_code 28 = .ok (.iload_n 0, 1) := by decide +kernel
theorem d_Mo_isOf_29 : decode prog_14_method_11_code 29 = .ok (.iconst 3, 1) := by decide +kernel
theorem d_Mo_isOf_30 : decode prog_14_method_11_code 30 = .ok (.if_icmp .eq 31, 3) := by decide +kernel
theorem d_Mo_isOf_33 : decode prog_14_method_11_code 33 = .ok (.iload_n 0, 1) := by decide +kernel
theorem d_Mo_isOf_34 : decode prog_14_method_11_code 34 = .ok (.iconst 4, 1) := by decide +kernel
theorem d_Mo_isOf_35 : decode prog_14_method_11_code 35 = .ok (.if_icmp .eq 26, 3) := by decide +kernel
theorem d_Mo_isOf_38 : decode prog_14_method_11_code 38 = .ok (.iload_n 1, 1) := by decide +kernel
theorem d_Mo_isOf_39 : decode prog_14_method_11_code 39 = .ok (.iconst 5, 1) := by decide +kernel
theorem d_Mo_isOf_40 : decode prog_14_method_11_code 40 = .ok (.if_icmp .ne 9, 3) := by decide +kernel
theorem d_Mo_isOf_43 : decode prog_14_method_11_code 43 = .ok (.iload_n 0, 1) := by decide +kernel
theorem d_Mo_isOf_44 : decode prog_14_method_11_code 44 = .ok (.bipush 6, 2) := by decide +kernel
theorem d_Mo_isOf_46 : decode prog_14_method_11_code 46 = .ok (.if_icmp .eq 15, 3) := by decide +kernel
theorem d_Mo_isOf_49 : decode prog_14_method_11_code 49 = .ok (.iload_n 1, 1) := by decide +kernel
theorem d_Mo_isOf_50 : decode prog_14_method_11_code 50 = .ok (.bipush 7, 2) := by decide +kernel
theorem d_Mo_isOf_52 : decode prog_14_method_11_code 52 = .ok (.if_icmp .ne 13, 3) := by decide +kernel
theorem d_Mo_isOf_55 : decode prog_14_method_11_code 55 = .ok (.iload_n 0, 1) := by decide +kernel
theorem d_Mo_isOf_56 : decode prog_14_method_11_code 56 = .ok (.bipush 8, 2) := by decide +kernel
theorem d_Mo_isOf_58 : decode prog_14_method_11_code 58 = .ok (.if_icmp .ne 7, 3) := by decide +kernel
theorem d_Mo_isOf_61 : decode prog_14_method_11_code 61 = .ok (.iconst 1, 1) := by decide +kernel
theorem d_Mo_isOf_62 : decode prog_14_method_11_code 62 = .ok (.goto 4, 3) := by decide +kernel
theorem d_Mo_isOf_65 : decode prog_14_method_11_code 65 = .ok (.iconst 0, 1) := by decide +kernel
theorem d_Mo_isOf_66 : decode prog_14_method_11_code 66 = .ok (.ireturn, 1) := by decide +kernel
theorem d_Mo_strip_0 : decode prog_14_method_22_code 0 = .ok (.iload_n 1, 1) := by decide +kernel
theorem d_Mo_strip_1 : decode prog_14_method_22_code 1 = .ok (.invokestatic 152, 3) := by decide +kernel
theorem d_Mo_strip_4 : decode prog_14_method_22_code 4 = .ok (.ifCond .eq 23, 3) := by decide +kernel
theorem d_Mo_strip_7 : decode prog_14_method_22_code 7 = .ok (.iload_n 2, 1) := by decide +kernel
theorem d_Mo_strip_8 : decode prog_14_method_22_code 8 = .ok (.invokestatic 106, 3) := by decide +kernel
theorem d_Mo_strip_11 : decode prog_14_method_22_code 11 = .ok (.ifCond .eq 16, 3) := by decide +kernel
theorem d_Mo_strip_14 : decode prog_14_method_22_code 14 = .ok (.iload 4, 2) := by decide +kernel
theorem d_Mo_strip_16 : decode prog_14_method_22_code 16 = .ok (.i2l, 1) := by decide +kernel
theorem d_Mo_strip_17 : decode prog_14_method_22_code 17 = .ok (.lconst 1, 1) := by decide +kernel
theorem d_Mo_strip_18 : decode prog_14_method_22_code 18 = .ok (.ldc2_w 155, 3) := by decide +kernel
theorem d_Mo_strip_21 : decode prog_14_method_22_code 21 = .ok (.invokestatic 102, 3) := by decide +kernel
theorem d_Mo_strip_24 : decode prog_14_method_22_code 24 = .ok (.ifCond .ne 6, 3) := by decide +kernel
theorem d_Mo_strip_27 : decode prog_14_method_22_code 27 = .ok (.ldc 112, 2) := by decide +kernel
theorem d_Mo_strip_29 : decode prog_14_method_22_code 29 = .ok (.ireturn, 1) := by decide +kernel
theorem d_Mo_strip_30 : decode prog_14_method_22_code 30 = .ok (.aload_n 0, 1) := by decide +kernel
theorem d_Mo_strip_31 : decode prog_14_method_22_code 31 = .ok (.getfield 7, 3) := by decide +kernel
theorem d_Mo_strip_34 : decode prog_14_method_22_code 34 = .ok (.iload_n 2, 1) := by decide +kernel
theorem d_Mo_strip_35 : decode prog_14_method_22_code 35 = .ok (.iaload, 1) := by decide +kernel
theorem d_Mo_strip_36 : decode prog_14_method_22_code 36 = .ok (.ifCond .ne 9, 3) := by decide +kernel
theorem d_Mo_strip_39 : decode prog_14_method_22_code 39 = .ok (.aload_n 0, 1) := by decide +kernel
theorem d_Mo_strip_40 : decode prog_14_method_22_code 40 = .ok (.iconst 1, 1) := by decide +kernel
theorem d_Mo_strip_41 : decode prog_14_method_22_code 41 = .ok (.invokevirtual 113, 3) := by decide +kernel
theorem d_Mo_strip_44 : decode prog_14_method_22_code 44 = .ok (.ireturn, 1) := by decide +kernel
theorem d_Mo_strip_45 : decode prog_14_method_22_code 45 = .ok (.iload_n 3, 1) := by decide +kernel
theorem d_Mo_strip_46 : decode prog_14_method_22_code 46 = .ok (.ifCond .lt 20, 3) := by decide +kernel
theorem d_Mo_strip_49 : decode prog_14_method_22_code 49 = .ok (.iload_n 3, 1) := by decide +kernel
theorem d_Mo_strip_50 : decode prog_14_method_22_code 50 = .ok (.i2l, 1) := by decide +kernel
theorem d_Mo_strip_51 : decode prog_14_method_22_code 51 = .ok (.iload 4, 2) := by decide +kernel
theorem d_Mo_strip_53 : decode prog_14_method_22_code 53 = .ok (.i2l, 1) := by decide +kernel
theorem d_Mo_strip_54 : decode prog_14_method_22_code 54 = .ok (.ladd, 1) := by decide +kernel
theorem d_Mo_strip_55 : decode prog_14_method_22_code 55 = .ok (.aload_n 0, 1) := by decide +kernel
theorem d_Mo_strip_56 : decode prog_14_method_22_code 56 = .ok (.getfield 13, 3) := by decide +kernel
theorem d_Mo_strip_59 : decode prog_14_method_22_code 59 = .ok (.iload_n 2, 1) := by decide +kernel
theorem d_Mo_strip_60 : decode prog_14_method_22_code 60 = .ok (.iaload, 1) := by decide +kernel
theorem d_Mo_strip_61 : decode prog_14_method_22_code 61 = .ok (.i2l, 1) := by decide +kernel
theorem d_Mo_strip_62 : decode prog_14_method_22_code 62 = .ok (.lcmp, 1) := by decide +kernel
theorem d_Mo_strip_63 : decode prog_14_method_22_code 63 = .ok (.ifCond .le 9, 3) := by decide +kernel
theorem d_Mo_strip_66 : decode prog_14_method_22_code 66 = .ok (.aload_n 0, 1) := by decide +kernel
theorem d_Mo_strip_67 : decode prog_14_method_22_code 67 = .ok (.iconst 2, 1) := by decide +kernel
theorem d_Mo_strip_68 : decode prog_14_method_22_code 68 = .ok (.invokevirtual 113, 3) := by decide +kernel
theorem d_Mo_strip_71 : decode prog_14_method_22_code 71 = .ok (.ireturn, 1) := by decide +kernel
theorem d_Mo_strip_72 : decode prog_14_method_22_code 72 = .ok (.iconst 0, 1) := by decide +kernel
theorem d_Mo_strip_73 : decode prog_14_method_22_code 73 = .ok (.istore 5, 2) := by decide +kernel
theorem d_Mo_strip_75 : decode prog_14_method_22_code 75 = .ok (.iload 5, 2) := by decide +kernel
theorem d_Mo_strip_77 : decode prog_14_method_22_code 77 = .ok (.iload 4, 2) := by decide +kernel
theorem d_Mo_strip_79 : decode prog_14_method_22_code 79 = .ok (.if_icmp .ge 17, 3) := by decide +kernel
theorem d_Mo_strip_82 : decode prog_14_method_22_code 82 = .ok (.aload_n 0, 1) := by decide +kernel
theorem d_Mo_strip_83 : decode prog_14_method_22_code 83 = .ok (.getfield 52, 3) := by decide +kernel
theorem d_Mo_strip_86 : decode prog_14_method_22_code 86 = .ok (.iload 5, 2) := by decide +kernel
theorem d_Mo_strip_88 : decode prog_14_method_22_code 88 = .ok (.iconst 0, 1) := by decide +kernel
theorem d_Mo_strip_89 : decode prog_14_method_22_code 89 = .ok (.bastore, 1) := by decide +kernel
theorem d_Mo_strip_90 : decode prog_14_method_22_code 90 = .ok (.iinc 5 1, 3) := by decide +kernel
theorem d_Mo_strip_93 : decode prog_14_method_22_code 93 = .ok (.goto (-18), 3) := by decide +kernel
theorem d_Mo_strip_96 : decode prog_14_method_22_code 96 = .ok (.aload_n 0, 1) := by decide +kernel
theorem d_Mo_strip_97 : decode prog_14_method_22_code 97 = .ok (.getfield 25, 3) := by decide +kernel
theorem d_Mo_strip_100 : decode prog_14_method_22_code 100 = .ok (.bipush 10, 2) := by decide +kernel
theorem d_Mo_strip_102 : decode prog_14_method_22_code 102 = .ok (.iload 4, 2) := by decide +kernel
theorem d_Mo_strip_104 : decode prog_14_method_22_code 104 = .ok (.iastore, 1) := by decide +kernel
theorem d_Mo_strip_105 : decode prog_14_method_22_code 105 = .ok (.iconst 0, 1) := by decide +kernel
theorem d_Mo_strip_106 : decode prog_14_method_22_code 106 = .ok (.istore 5, 2) := by decide +kernel
theorem d_Mo_strip_108 : decode prog_14_method_22_code 108 = .ok (.iload 5, 2) := by decide +kernel
theorem d_Mo_strip_110 : decode prog_14_method_22_code 110 = .ok (.iload 4, 2) := by decide +kernel
theorem d_Mo_strip_112 : decode prog_14_method_22_code 112 = .ok (.if_icmp .ge 74, 3) := by decide +kernel
theorem d_Mo_strip_115 : decode prog_14_method_22_code 115 = .ok (.aload_n 0, 1) := by decide +kernel
theorem d_Mo_strip_116 : decode prog_14_method_22_code 116 = .ok (.getfield 16, 3) := by decide +kernel
theorem d_Mo_strip_119 : decode prog_14_method_22_code 119 = .ok (.bipush 100, 2) := by decide +kernel
theorem d_Mo_strip_121 : decode prog_14_method_22_code 121 = .ok (.iload_n 2, 1) := by decide +kernel
theorem d_Mo_strip_122 : decode prog_14_method_22_code 122 = .ok (.imul, 1) := by decide +kernel
theorem d_Mo_strip_123 : decode prog_14_method_22_code 123 = .ok (.iload_n 3, 1) := by decide +kernel
theorem d_Mo_strip_124 : decode prog_14_method_22_code 124 = .ok (.iadd, 1) := by decide +kernel
theorem d_Mo_strip_125 : decode prog_14_method_22_code 125 = .ok (.iload 5, 2) := by decide +kernel
theorem d_Mo_strip_127 : decode prog_14_method_22_code 127 = .ok (.iadd, 1) := by decide +kernel
theorem d_Mo_strip_128 : decode prog_14_method_22_code 128 = .ok (.iaload, 1) := by decide +kernel
theorem d_Mo_strip_129 : decode prog_14_method_22_code 129 = .ok (.istore 6, 2) := by decide +kernel
theorem d_Mo_strip_131 : decode prog_14_method_22_code 131 = .ok (.iload 6, 2) := by decide +kernel
theorem d_Mo_strip_133 : decode prog_14_method_22_code 133 = .ok (.i2l, 1) := by decide +kernel
theorem d_Mo_strip_134 : decode prog_14_method_22_code 134 = .ok (.lconst 0, 1) := by decide +kernel
theorem d_Mo_strip_135 : decode prog_14_method_22_code 135 = .ok (.iload 4, 2) := by decide +kernel
theorem d_Mo_strip_137 : decode prog_14_method_22_code 137 = .ok (.iconst 1, 1) := by decide +kernel
theorem d_Mo_strip_138 : decode prog_14_method_22_code 138 = .ok (.isub, 1) := by decide +kernel
theorem d_Mo_strip_139 : decode prog_14_method_22_code 139 = .ok (.i2l, 1) := by decide +kernel
theorem d_Mo_strip_140 : decode prog_14_method_22_code 140 = .ok (.invokestatic 102, 3) := by decide +kernel
theorem d_Mo_strip_143 : decode prog_14_method_22_code 143 = .ok (.ifCond .eq 13, 3) := by decide +kernel
theorem d_Mo_strip_146 : decode prog_14_method_22_code 146 = .ok (.aload_n 0, 1) := by decide +kernel
theorem d_Mo_strip_147 : decode prog_14_method_22_code 147 = .ok (.getfield 52, 3) := by decide +kernel
theorem d_Mo_strip_150 : decode prog_14_method_22_code 150 = .ok (.iload 6, 2) := by decide +kernel
theorem d_Mo_strip_152 : decode prog_14_method_22_code 152 = .ok (.baload, 1) := by decide +kernel
theorem d_Mo_strip_153 : decode prog_14_method_22_code 153 = .ok (.ifCond .eq 6, 3) := by decide +kernel
theorem d_Mo_strip_156 : decode prog_14_method_22_code 156 = .ok (.ldc 112, 2) := by decide +kernel
theorem d_Mo_strip_158 : decode prog_14_method_22_code 158 = .ok (.ireturn, 1) := by decide +kernel
theorem d_Mo_strip_159 : decode prog_14_method_22_code 159 = .ok (.aload_n 0, 1) := by decide +kernel
theorem d_Mo_strip_160 : decode prog_14_method_22_code 160 = .ok (.getfield 52, 3) := by decide +kernel
theorem d_Mo_strip_163 : decode prog_14_method_22_code 163 = .ok (.iload 6, 2) := by decide +kernel
theorem d_Mo_strip_165 : decode prog_14_method_22_code 165 = .ok (.iconst 1, 1) := by decide +kernel
theorem d_Mo_strip_166 : decode prog_14_method_22_code 166 = .ok (.bastore, 1) := by decide +kernel
theorem d_Mo_strip_167 : decode prog_14_method_22_code 167 = .ok (.aload_n 0, 1) := by decide +kernel
theorem d_Mo_strip_168 : decode prog_14_method_22_code 168 = .ok (.getfield 28, 3) := by decide +kernel
theorem d_Mo_strip_171 : decode prog_14_method_22_code 171 = .ok (.sipush 400, 3) := by decide +kernel
theorem d_Mo_strip_174 : decode prog_14_method_22_code 174 = .ok (.iload 5, 2) := by decide +kernel
theorem d_Mo_strip_176 : decode prog_14_method_22_code 176 = .ok (.iadd, 1) := by decide +kernel
theorem d_Mo_strip_177 : decode prog_14_method_22_code 177 = .ok (.iload 6, 2) := by decide +kernel
theorem d_Mo_strip_179 : decode prog_14_method_22_code 179 = .ok (.iastore, 1) := by decide +kernel
theorem d_Mo_strip_180 : decode prog_14_method_22_code 180 = .ok (.iinc 5 1, 3) := by decide +kernel
theorem d_Mo_strip_183 : decode prog_14_method_22_code 183 = .ok (.goto (-75), 3) := by decide +kernel
theorem d_Mo_strip_186 : decode prog_14_method_22_code 186 = .ok (.aload_n 0, 1) := by decide +kernel
theorem d_Mo_strip_187 : decode prog_14_method_22_code 187 = .ok (.iload_n 1, 1) := by decide +kernel
theorem d_Mo_strip_188 : decode prog_14_method_22_code 188 = .ok (.bipush 7, 2) := by decide +kernel
theorem d_Mo_strip_190 : decode prog_14_method_22_code 190 = .ok (.invokevirtual 157, 3) := by decide +kernel
theorem d_Mo_strip_193 : decode prog_14_method_22_code 193 = .ok (.ireturn, 1) := by decide +kernel
theorem d_Mo_nth_0 : decode prog_14_method_26_code 0 = .ok (.iload_n 1, 1) := by decide +kernel
theorem d_Mo_nth_1 : decode prog_14_method_26_code 1 = .ok (.invokestatic 152, 3) := by decide +kernel
theorem d_Mo_nth_4 : decode prog_14_method_26_code 4 = .ok (.ifCond .eq 15, 3) := by decide +kernel
theorem d_Mo_nth_7 : decode prog_14_method_26_code 7 = .ok (.iload_n 2, 1) := by decide +kernel
theorem d_Mo_nth_8 : decode prog_14_method_26_code 8 = .ok (.i2l, 1) := by decide +kernel
theorem d_Mo_nth_9 : decode prog_14_method_26_code 9 = .ok (.lconst 1, 1) := by decide +kernel
theorem d_Mo_nth_10 : decode prog_14_method_26_code 10 = .ok (.ldc2_w 175, 3) := by decide +kernel
theorem d_Mo_nth_13 : decode prog_14_method_26_code 13 = .ok (.invokestatic 102, 3) := by decide +kernel
theorem d_Mo_nth_16 : decode prog_14_method_26_code 16 = .ok (.ifCond .ne 6, 3) := by decide +kernel
theorem d_Mo_nth_19 : decode prog_14_method_26_code 19 = .ok (.ldc 112, 2) := by decide +kernel
theorem d_Mo_nth_21 : decode prog_14_method_26_code 21 = .ok (.ireturn, 1) := by decide +kernel
theorem d_Mo_nth_22 : decode prog_14_method_26_code 22 = .ok (.aload_n 0, 1) := by decide +kernel
theorem d_Mo_nth_23 : decode prog_14_method_26_code 23 = .ok (.getfield 25, 3) := by decide +kernel
theorem d_Mo_nth_26 : decode prog_14_method_26_code 26 = .ok (.bipush 10, 2) := by decide +kernel
theorem d_Mo_nth_28 : decode prog_14_method_26_code 28 = .ok (.iload_n 2, 1) := by decide +kernel
theorem d_Mo_nth_29 : decode prog_14_method_26_code 29 = .ok (.iastore, 1) := by decide +kernel
theorem d_Mo_nth_30 : decode prog_14_method_26_code 30 = .ok (.aload_n 0, 1) := by decide +kernel
theorem d_Mo_nth_31 : decode prog_14_method_26_code 31 = .ok (.aload_n 0, 1) := by decide +kernel
theorem d_Mo_nth_32 : decode prog_14_method_26_code 32 = .ok (.getfield 28, 3) := by decide +kernel
theorem d_Mo_nth_35 : decode prog_14_method_26_code 35 = .ok (.sipush 400, 3) := by decide +kernel
theorem d_Mo_nth_38 : decode prog_14_method_26_code 38 = .ok (.iload_n 2, 1) := by decide +kernel
theorem d_Mo_nth_39 : decode prog_14_method_26_code 39 = .ok (.iload_n 3, 1) := by decide +kernel
theorem d_Mo_nth_40 : decode prog_14_method_26_code 40 = .ok (.invokevirtual 177, 3) := by decide +kernel
theorem d_Mo_nth_43 : decode prog_14_method_26_code 43 = .ok (.ifCond .eq 12, 3) := by decide +kernel
theorem d_Mo_nth_46 : decode prog_14_method_26_code 46 = .ok (.aload_n 0, 1) := by decide +kernel
theorem d_Mo_nth_47 : decode prog_14_method_26_code 47 = .ok (.iload_n 1, 1) := by decide +kernel
theorem d_Mo_nth_48 : decode prog_14_method_26_code 48 = .ok (.iconst 1, 1) := by decide +kernel
theorem d_Mo_nth_49 : decode prog_14_method_26_code 49 = .ok (.invokevirtual 157, 3) := by decide +kernel
theorem d_Mo_nth_52 : decode prog_14_method_26_code 52 = .ok (.goto 9, 3) := by decide +kernel
theorem d_Mo_nth_55 : decode prog_14_method_26_code 55 = .ok (.aload_n 0, 1) := by decide +kernel
theorem d_Mo_nth_56 : decode prog_14_method_26_code 56 = .ok (.ldc 136, 2) := by decide +kernel
theorem d_Mo_nth_58 : decode prog_14_method_26_code 58 = .ok (.invokevirtual 117, 3) := by decide +kernel
theorem d_Mo_nth_61 : decode prog_14_method_26_code 61 = .ok (.ireturn, 1) := by decide +kernel
theorem d_Mo_tell_0 : decode prog_14_method_24_code 0 = .ok (.iload 4, 2) := by decide +kernel
theorem d_Mo_tell_2 : decode prog_14_method_24_code 2 = .ok (.i2l, 1) := by decide +kernel
theorem d_Mo_tell_3 : decode prog_14_method_24_code 3 = .ok (.lconst 0, 1) := by decide +kernel
theorem d_Mo_tell_4 : decode prog_14_method_24_code 4 = .ok (.aload_n 0, 1) := by decide +kernel
theorem d_Mo_tell_5 : decode prog_14_method_24_code 5 = .ok (.iconst 2, 1) := by decide +kernel
theorem d_Mo_tell_6 : decode prog_14_method_24_code 6 = .ok (.iload_n 3, 1) := by decide +kernel
theorem d_Mo_tell_7 : decode prog_14_method_24_code 7 = .ok (.imul, 1) := by decide +kernel
theorem d_Mo_tell_8 : decode prog_14_method_24_code 8 = .ok (.iconst 0, 1) := by decide +kernel
theorem d_Mo_tell_9 : decode prog_14_method_24_code 9 = .ok (.invokevirtual 172, 3) := by decide +kernel
theorem d_Mo_tell_12 : decode prog_14_method_24_code 12 = .ok (.iconst 1, 1) := by decide +kernel
theorem d_Mo_tell_13 : decode prog_14_method_24_code 13 = .ok (.isub, 1) := by decide +kernel
theorem d_Mo_tell_14 : decode prog_14_method_24_code 14 = .ok (.i2l, 1) := by decide +kernel
theorem d_Mo_tell_15 : decode prog_14_method_24_code 15 = .ok (.invokestatic 102, 3) := by decide +kernel
theorem d_Mo_tell_18 : decode prog_14_method_24_code 18 = .ok (.ifCond .ne 5, 3) := by decide +kernel
theorem d_Mo_tell_21 : decode prog_14_method_24_code 21 = .ok (.iconst 0, 1) := by decide +kernel
theorem d_Mo_tell_22 : decode prog_14_method_24_code 22 = .ok (.ireturn, 1) := by decide +kernel
theorem d_Mo_tell_23 : decode prog_14_method_24_code 23 = .ok (.iload 4, 2) := by decide +kernel
theorem d_Mo_tell_25 : decode prog_14_method_24_code 25 = .ok (.istore 5, 2) := by decide +kernel
theorem d_Mo_tell_27 : decode prog_14_method_24_code 27 = .ok (.iconst 0, 1) := by decide +kernel
theorem d_Mo_tell_28 : decode prog_14_method_24_code 28 = .ok (.istore 6, 2) := by decide +kernel
theorem d_Mo_tell_30 : decode prog_14_method_24_code 30 = .ok (.iconst 0, 1) := by decide +kernel
theorem d_Mo_tell_31 : decode prog_14_method_24_code 31 = .ok (.istore 7, 2) := by decide +kernel
theorem d_Mo_tell_33 : decode prog_14_method_24_code 33 = .ok (.iload 7, 2) := by decide +kernel
theorem d_Mo_tell_35 : decode prog_14_method_24_code 35 = .ok (.iconst 2, 1) := by decide +kernel
theorem d_Mo_tell_36 : decode prog_14_method_24_code 36 = .ok (.iload_n 3, 1) := by decide +kernel
theorem d_Mo_tell_37 : decode prog_14_method_24_code 37 = .ok (.imul, 1) := by decide +kernel
theorem d_Mo_tell_38 : decode prog_14_method_24_code 38 = .ok (.if_icmp .ge 88, 3) := by decide +kernel
theorem d_Mo_tell_41 : decode prog_14_method_24_code 41 = .ok (.aload_n 0, 1) := by decide +kernel
theorem d_Mo_tell_42 : decode prog_14_method_24_code 42 = .ok (.iconst 2, 1) := by decide +kernel
theorem d_Mo_tell_43 : decode prog_14_method_24_code 43 = .ok (.iload_n 3, 1) := by decide +kernel
theorem d_Mo_tell_44 : decode prog_14_method_24_code 44 = .ok (.imul, 1) := by decide +kernel
theorem d_Mo_tell_45 : decode prog_14_method_24_code 45 = .ok (.iload 7, 2) := by decide +kernel
theorem d_Mo_tell_47 : decode prog_14_method_24_code 47 = .ok (.isub, 1) := by decide +kernel
theorem d_Mo_tell_48 : decode prog_14_method_24_code 48 = .ok (.iconst 1, 1) := by decide +kernel
theorem d_Mo_tell_49 : decode prog_14_method_24_code 49 = .ok (.isub, 1) := by decide +kernel
theorem d_Mo_tell_50 : decode prog_14_method_24_code 50 = .ok (.iload 6, 2) := by decide +kernel
theorem d_Mo_tell_52 : decode prog_14_method_24_code 52 = .ok (.iconst 1, 1) := by decide +kernel
theorem d_Mo_tell_53 : decode prog_14_method_24_code 53 = .ok (.iadd, 1) := by decide +kernel
theorem d_Mo_tell_54 : decode prog_14_method_24_code 54 = .ok (.invokevirtual 172, 3) := by decide +kernel
theorem d_Mo_tell_57 : decode prog_14_method_24_code 57 = .ok (.istore 8, 2) := by decide +kernel
theorem d_Mo_tell_59 : decode prog_14_method_24_code 59 = .ok (.iload 5, 2) := by decide +kernel
theorem d_Mo_tell_61 : decode prog_14_method_24_code 61 = .ok (.iload 8, 2) := by decide +kernel
theorem d_Mo_tell_63 : decode prog_14_method_24_code 63 = .ok (.if_icmp .ge 7, 3) := by decide +kernel
theorem d_Mo_tell_66 : decode prog_14_method_24_code 66 = .ok (.iconst 1, 1) := by decide +kernel
theorem d_Mo_tell_67 : decode prog_14_method_24_code 67 = .ok (.goto 4, 3) := by decide +kernel
theorem d_Mo_tell_70 : decode prog_14_method_24_code 70 = .ok (.iconst 0, 1) := by decide +kernel
theorem d_Mo_tell_71 : decode prog_14_method_24_code 71 = .ok (.istore 9, 2) := by decide +kernel
theorem d_Mo_tell_73 : decode prog_14_method_24_code 73 = .ok (.iload 5, 2) := by decide +kernel
theorem d_Mo_tell_75 : decode prog_14_method_24_code 75 = .ok (.iload 9, 2) := by decide +kernel
theorem d_Mo_tell_77 : decode prog_14_method_24_code 77 = .ok (.ifCond .eq 7, 3) := by decide +kernel
theorem d_Mo_tell_80 : decode prog_14_method_24_code 80 = .ok (.iconst 0, 1) := by decide +kernel
theorem d_Mo_tell_81 : decode prog_14_method_24_code 81 = .ok (.goto 5, 3) := by decide +kernel
theorem d_Mo_tell_84 : decode prog_14_method_24_code 84 = .ok (.iload 8, 2) := by decide +kernel
theorem d_Mo_tell_86 : decode prog_14_method_24_code 86 = .ok (.isub, 1) := by decide +kernel
theorem d_Mo_tell_87 : decode prog_14_method_24_code 87 = .ok (.istore 5, 2) := by decide +kernel
theorem d_Mo_tell_89 : decode prog_14_method_24_code 89 = .ok (.iload 6, 2) := by decide +kernel
theorem d_Mo_tell_91 : decode prog_14_method_24_code 91 = .ok (.iload 9, 2) := by decide +kernel
theorem d_Mo_tell_93 : decode prog_14_method_24_code 93 = .ok (.ifCond .eq 7, 3) := by decide +kernel
theorem d_Mo_tell_96 : decode prog_14_method_24_code 96 = .ok (.iconst 1, 1) := by decide +kernel
theorem d_Mo_tell_97 : decode prog_14_method_24_code 97 = .ok (.goto 4, 3) := by decide +kernel
theorem d_Mo_tell_100 : decode prog_14_method_24_code 100 = .ok (.iconst (-1), 1) := by decide +kernel
theorem d_Mo_tell_101 : decode prog_14_method_24_code 101 = .ok (.iadd, 1) := by decide +kernel
theorem d_Mo_tell_102 : decode prog_14_method_24_code 102 = .ok (.istore 6, 2) := by decide +kernel
theorem d_Mo_tell_104 : decode prog_14_method_24_code 104 = .ok (.aload_n 1, 1) := by decide +kernel
theorem d_Mo_tell_105 : decode prog_14_method_24_code 105 = .ok (.iload_n 2, 1) := by decide +kernel
theorem d_Mo_tell_106 : decode prog_14_method_24_code 106 = .ok (.iload 7, 2) := by decide +kernel
theorem d_Mo_tell_108 : decode prog_14_method_24_code 108 = .ok (.iadd, 1) := by decide +kernel
theorem d_Mo_tell_109 : decode prog_14_method_24_code 109 = .ok (.iload 9, 2) := by decide +kernel
theorem d_Mo_tell_111 : decode prog_14_method_24_code 111 = .ok (.ifCond .eq 7, 3) := by decide +kernel
theorem d_Mo_tell_114 : decode prog_14_method_24_code 114 = .ok (.iconst 1, 1) := by decide +kernel
theorem d_Mo_tell_115 : decode prog_14_method_24_code 115 = .ok (.goto 4, 3) := by decide +kernel
theorem d_Mo_tell_118 : decode prog_14_method_24_code 118 = .ok (.iconst (-1), 1) := by decide +kernel
theorem d_Mo_tell_119 : decode prog_14_method_24_code 119 = .ok (.iastore, 1) := by decide +kernel
theorem d_Mo_tell_120 : decode prog_14_method_24_code 120 = .ok (.iinc 7 1, 3) := by decide +kernel
theorem d_Mo_tell_123 : decode prog_14_method_24_code 123 = .ok (.goto (-90), 3) := by decide +kernel
theorem d_Mo_tell_126 : decode prog_14_method_24_code 126 = .ok (.iconst 1, 1) := by decide +kernel
theorem d_Mo_tell_127 : decode prog_14_method_24_code 127 = .ok (.ireturn, 1) := by decide +kernel
theorem d_Mo_endsOf_0 : decode prog_14_method_23_code 0 = .ok (.aload_n 0, 1) := by decide +kernel
theorem d_Mo_endsOf_1 : decode prog_14_method_23_code 1 = .ok (.getfield 168, 3) := by decide +kernel
theorem d_Mo_endsOf_4 : decode prog_14_method_23_code 4 = .ok (.ifCond .ne 99, 3) := by decide +kernel
theorem d_Mo_endsOf_7 : decode prog_14_method_23_code 7 = .ok (.aload_n 0, 1) := by decide +kernel
theorem d_Mo_endsOf_8 : decode prog_14_method_23_code 8 = .ok (.iconst 1, 1) := by decide +kernel
theorem d_Mo_endsOf_9 : decode prog_14_method_23_code 9 = .ok (.putfield 168, 3) := by decide +kernel
theorem d_Mo_endsOf_12 : decode prog_14_method_23_code 12 = .ok (.aload_n 0, 1) := by decide +kernel
theorem d_Mo_endsOf_13 : decode prog_14_method_23_code 13 = .ok (.getfield 56, 3) := by decide +kernel
theorem d_Mo_endsOf_16 : decode prog_14_method_23_code 16 = .ok (.iconst 0, 1) := by decide +kernel
theorem d_Mo_endsOf_17 : decode prog_14_method_23_code 17 = .ok (.iconst 1, 1) := by decide +kernel
theorem d_Mo_endsOf_18 : decode prog_14_method_23_code 18 = .ok (.iastore, 1) := by decide +kernel
theorem d_Mo_endsOf_19 : decode prog_14_method_23_code 19 = .ok (.iconst 1, 1) := by decide +kernel
theorem d_Mo_endsOf_20 : decode prog_14_method_23_code 20 = .ok (.istore_n 3, 1) := by decide +kernel
theorem d_Mo_endsOf_21 : decode prog_14_method_23_code 21 = .ok (.iload_n 3, 1) := by decide +kernel
theorem d_Mo_endsOf_22 : decode prog_14_method_23_code 22 = .ok (.bipush 25, 2) := by decide +kernel
theorem d_Mo_endsOf_24 : decode prog_14_method_23_code 24 = .ok (.if_icmp .ge 79, 3) := by decide +kernel
theorem d_Mo_endsOf_27 : decode prog_14_method_23_code 27 = .ok (.iconst 0, 1) := by decide +kernel
theorem d_Mo_endsOf_28 : decode prog_14_method_23_code 28 = .ok (.istore 4, 2) := by decide +kernel
theorem d_Mo_endsOf_30 : decode prog_14_method_23_code 30 = .ok (.iload 4, 2) := by decide +kernel
theorem d_Mo_endsOf_32 : decode prog_14_method_23_code 32 = .ok (.bipush 25, 2) := by decide +kernel
theorem d_Mo_endsOf_34 : decode prog_14_method_23_code 34 = .ok (.if_icmp .ge 63, 3) := by decide +kernel
theorem d_Mo_endsOf_37 : decode prog_14_method_23_code 37 = .ok (.aload_n 0, 1) := by decide +kernel
theorem d_Mo_endsOf_38 : decode prog_14_method_23_code 38 = .ok (.getfield 56, 3) := by decide +kernel
theorem d_Mo_endsOf_41 : decode prog_14_method_23_code 41 = .ok (.bipush 26, 2) := by decide +kernel
theorem d_Mo_endsOf_43 : decode prog_14_method_23_code 43 = .ok (.iload_n 3, 1) := by decide +kernel
theorem d_Mo_endsOf_44 : decode prog_14_method_23_code 44 = .ok (.imul, 1) := by decide +kernel
theorem d_Mo_endsOf_45 : decode prog_14_method_23_code 45 = .ok (.iload 4, 2) := by decide +kernel
theorem d_Mo_endsOf_47 : decode prog_14_method_23_code 47 = .ok (.iadd, 1) := by decide +kernel
theorem d_Mo_endsOf_48 : decode prog_14_method_23_code 48 = .ok (.aload_n 0, 1) := by decide +kernel
theorem d_Mo_endsOf_49 : decode prog_14_method_23_code 49 = .ok (.getfield 56, 3) := by decide +kernel
theorem d_Mo_endsOf_52 : decode prog_14_method_23_code 52 = .ok (.bipush 26, 2) := by decide +kernel
theorem d_Mo_endsOf_54 : decode prog_14_method_23_code 54 = .ok (.iload_n 3, 1) := by decide +kernel
theorem d_Mo_endsOf_55 : decode prog_14_method_23_code 55 = .ok (.iconst 1, 1) := by decide +kernel
theorem d_Mo_endsOf_56 : decode prog_14_method_23_code 56 = .ok (.isub, 1) := by decide +kernel
theorem d_Mo_endsOf_57 : decode prog_14_method_23_code 57 = .ok (.imul, 1) := by decide +kernel
theorem d_Mo_endsOf_58 : decode prog_14_method_23_code 58 = .ok (.iload 4, 2) := by decide +kernel
theorem d_Mo_endsOf_60 : decode prog_14_method_23_code 60 = .ok (.iadd, 1) := by decide +kernel
theorem d_Mo_endsOf_61 : decode prog_14_method_23_code 61 = .ok (.iconst 1, 1) := by decide +kernel
theorem d_Mo_endsOf_62 : decode prog_14_method_23_code 62 = .ok (.iadd, 1) := by decide +kernel
theorem d_Mo_endsOf_63 : decode prog_14_method_23_code 63 = .ok (.iaload, 1) := by decide +kernel
theorem d_Mo_endsOf_64 : decode prog_14_method_23_code 64 = .ok (.iload 4, 2) := by decide +kernel
theorem d_Mo_endsOf_66 : decode prog_14_method_23_code 66 = .ok (.ifCond .le 22, 3) := by decide +kernel
theorem d_Mo_endsOf_69 : decode prog_14_method_23_code 69 = .ok (.aload_n 0, 1) := by decide +kernel
theorem d_Mo_endsOf_70 : decode prog_14_method_23_code 70 = .ok (.getfield 56, 3) := by decide +kernel
theorem d_Mo_endsOf_73 : decode prog_14_method_23_code 73 = .ok (.bipush 26, 2) := by decide +kernel
theorem d_Mo_endsOf_75 : decode prog_14_method_23_code 75 = .ok (.iload_n 3, 1) := by decide +kernel
theorem d_Mo_endsOf_76 : decode prog_14_method_23_code 76 = .ok (.iconst 1, 1) := by decide +kernel
theorem d_Mo_endsOf_77 : decode prog_14_method_23_code 77 = .ok (.isub, 1) := by decide +kernel
theorem d_Mo_endsOf_78 : decode prog_14_method_23_code 78 = .ok (.imul, 1) := by decide +kernel
theorem d_Mo_endsOf_79 : decode prog_14_method_23_code 79 = .ok (.iload 4, 2) := by decide +kernel
theorem d_Mo_endsOf_81 : decode prog_14_method_23_code 81 = .ok (.iadd, 1) := by decide +kernel
theorem d_Mo_endsOf_82 : decode prog_14_method_23_code 82 = .ok (.iconst 1, 1) := by decide +kernel
theorem d_Mo_endsOf_83 : decode prog_14_method_23_code 83 = .ok (.isub, 1) := by decide +kernel
theorem d_Mo_endsOf_84 : decode prog_14_method_23_code 84 = .ok (.iaload, 1) := by decide +kernel
theorem d_Mo_endsOf_85 : decode prog_14_method_23_code 85 = .ok (.goto 4, 3) := by decide +kernel
theorem d_Mo_endsOf_88 : decode prog_14_method_23_code 88 = .ok (.iconst 0, 1) := by decide +kernel
theorem d_Mo_endsOf_89 : decode prog_14_method_23_code 89 = .ok (.iadd, 1) := by decide +kernel
theorem d_Mo_endsOf_90 : decode prog_14_method_23_code 90 = .ok (.iastore, 1) := by decide +kernel
theorem d_Mo_endsOf_91 : decode prog_14_method_23_code 91 = .ok (.iinc 4 1, 3) := by decide +kernel
theorem d_Mo_endsOf_94 : decode prog_14_method_23_code 94 = .ok (.goto (-64), 3) := by decide +kernel
theorem d_Mo_endsOf_97 : decode prog_14_method_23_code 97 = .ok (.iinc 3 1, 3) := by decide +kernel
theorem d_Mo_endsOf_100 : decode prog_14_method_23_code 100 = .ok (.goto (-79), 3) := by decide +kernel
theorem d_Mo_endsOf_103 : decode prog_14_method_23_code 103 = .ok (.iload_n 2, 1) := by decide +kernel
theorem d_Mo_endsOf_104 : decode prog_14_method_23_code 104 = .ok (.ifCond .lt 9, 3) := by decide +kernel
theorem d_Mo_endsOf_107 : decode prog_14_method_23_code 107 = .ok (.iload_n 2, 1) := by decide +kernel
theorem d_Mo_endsOf_108 : decode prog_14_method_23_code 108 = .ok (.bipush 25, 2) := by decide +kernel
theorem d_Mo_endsOf_110 : decode prog_14_method_23_code 110 = .ok (.if_icmp .le 7, 3) := by decide +kernel
theorem d_Mo_endsOf_113 : decode prog_14_method_23_code 113 = .ok (.iconst 0, 1) := by decide +kernel
theorem d_Mo_endsOf_114 : decode prog_14_method_23_code 114 = .ok (.goto 14, 3) := by decide +kernel
theorem d_Mo_endsOf_117 : decode prog_14_method_23_code 117 = .ok (.aload_n 0, 1) := by decide +kernel
theorem d_Mo_endsOf_118 : decode prog_14_method_23_code 118 = .ok (.getfield 56, 3) := by decide +kernel
theorem d_Mo_endsOf_121 : decode prog_14_method_23_code 121 = .ok (.bipush 26, 2) := by decide +kernel
theorem d_Mo_endsOf_123 : decode prog_14_method_23_code 123 = .ok (.iload_n 1, 1) := by decide +kernel
theorem d_Mo_endsOf_124 : decode prog_14_method_23_code 124 = .ok (.imul, 1) := by decide +kernel
theorem d_Mo_endsOf_125 : decode prog_14_method_23_code 125 = .ok (.iload_n 2, 1) := by decide +kernel
theorem d_Mo_endsOf_126 : decode prog_14_method_23_code 126 = .ok (.iadd, 1) := by decide +kernel
theorem d_Mo_endsOf_127 : decode prog_14_method_23_code 127 = .ok (.iaload, 1) := by decide +kernel
theorem d_Mo_endsOf_128 : decode prog_14_method_23_code 128 = .ok (.ireturn, 1) := by decide +kernel
theorem d_Mo_turn_0 : decode prog_14_method_29_code 0 = .ok (.iload_n 1, 1) := by decide +kernel
theorem d_Mo_turn_1 : decode prog_14_method_29_code 1 = .ok (.invokestatic 152, 3) := by decide +kernel
theorem d_Mo_turn_4 : decode prog_14_method_29_code 4 = .ok (.ifCond .eq 10, 3) := by decide +kernel
theorem d_Mo_turn_7 : decode prog_14_method_29_code 7 = .ok (.iload_n 2, 1) := by decide +kernel
theorem d_Mo_turn_8 : decode prog_14_method_29_code 8 = .ok (.invokestatic 152, 3) := by decide +kernel
theorem d_Mo_turn_11 : decode prog_14_method_29_code 11 = .ok (.ifCond .ne 6, 3) := by decide +kernel
theorem d_Mo_turn_14 : decode prog_14_method_29_code 14 = .ok (.ldc 112, 2) := by decide +kernel
theorem d_Mo_turn_16 : decode prog_14_method_29_code 16 = .ok (.ireturn, 1) := by decide +kernel
theorem d_Mo_turn_17 : decode prog_14_method_29_code 17 = .ok (.aload_n 0, 1) := by decide +kernel
theorem d_Mo_turn_18 : decode prog_14_method_29_code 18 = .ok (.iload_n 2, 1) := by decide +kernel
theorem d_Mo_turn_19 : decode prog_14_method_29_code 19 = .ok (.iconst 2, 1) := by decide +kernel
theorem d_Mo_turn_20 : decode prog_14_method_29_code 20 = .ok (.invokevirtual 165, 3) := by decide +kernel
theorem d_Mo_turn_23 : decode prog_14_method_29_code 23 = .ok (.istore_n 3, 1) := by decide +kernel
theorem d_Mo_turn_24 : decode prog_14_method_29_code 24 = .ok (.iload_n 3, 1) := by decide +kernel
theorem d_Mo_turn_25 : decode prog_14_method_29_code 25 = .ok (.ifCond .eq 5, 3) := by decide +kernel
theorem d_Mo_turn_28 : decode prog_14_method_29_code 28 = .ok (.iload_n 3, 1) := by decide +kernel
theorem d_Mo_turn_29 : decode prog_14_method_29_code 29 = .ok (.ireturn, 1) := by decide +kernel
theorem d_Mo_turn_30 : decode prog_14_method_29_code 30 = .ok (.aload_n 0, 1) := by decide +kernel
theorem d_Mo_turn_31 : decode prog_14_method_29_code 31 = .ok (.getfield 25, 3) := by decide +kernel
theorem d_Mo_turn_34 : decode prog_14_method_29_code 34 = .ok (.bipush 10, 2) := by decide +kernel
theorem d_Mo_turn_36 : decode prog_14_method_29_code 36 = .ok (.aload_n 0, 1) := by decide +kernel
theorem d_Mo_turn_37 : decode prog_14_method_29_code 37 = .ok (.getfield 25, 3) := by decide +kernel
theorem d_Mo_turn_40 : decode prog_14_method_29_code 40 = .ok (.iload_n 2, 1) := by decide +kernel
theorem d_Mo_turn_41 : decode prog_14_method_29_code 41 = .ok (.iaload, 1) := by decide +kernel
theorem d_Mo_turn_42 : decode prog_14_method_29_code 42 = .ok (.iastore, 1) := by decide +kernel
theorem d_Mo_turn_43 : decode prog_14_method_29_code 43 = .ok (.aload_n 0, 1) := by decide +kernel
theorem d_Mo_turn_44 : decode prog_14_method_29_code 44 = .ok (.aload_n 0, 1) := by decide +kernel
theorem d_Mo_turn_45 : decode prog_14_method_29_code 45 = .ok (.getfield 28, 3) := by decide +kernel
theorem d_Mo_turn_48 : decode prog_14_method_29_code 48 = .ok (.sipush 400, 3) := by decide +kernel
theorem d_Mo_turn_51 : decode prog_14_method_29_code 51 = .ok (.aload_n 0, 1) := by decide +kernel
theorem d_Mo_turn_52 : decode prog_14_method_29_code 52 = .ok (.getfield 34, 3) := by decide +kernel
theorem d_Mo_turn_55 : decode prog_14_method_29_code 55 = .ok (.bipush 40, 2) := by decide +kernel
theorem d_Mo_turn_57 : decode prog_14_method_29_code 57 = .ok (.iload_n 2, 1) := by decide +kernel
theorem d_Mo_turn_58 : decode prog_14_method_29_code 58 = .ok (.imul, 1) := by decide +kernel
theorem d_Mo_turn_59 : decode prog_14_method_29_code 59 = .ok (.aload_n 0, 1) := by decide +kernel
theorem d_Mo_turn_60 : decode prog_14_method_29_code 60 = .ok (.getfield 25, 3) := by decide +kernel
theorem d_Mo_turn_63 : decode prog_14_method_29_code 63 = .ok (.iload_n 2, 1) := by decide +kernel
theorem d_Mo_turn_64 : decode prog_14_method_29_code 64 = .ok (.iaload, 1) := by decide +kernel
theorem d_Mo_turn_65 : decode prog_14_method_29_code 65 = .ok (.invokevirtual 181, 3) := by decide +kernel
theorem d_Mo_turn_68 : decode prog_14_method_29_code 68 = .ok (.aload_n 0, 1) := by decide +kernel
theorem d_Mo_turn_69 : decode prog_14_method_29_code 69 = .ok (.iload_n 1, 1) := by decide +kernel
theorem d_Mo_turn_70 : decode prog_14_method_29_code 70 = .ok (.iconst 1, 1) := by decide +kernel
theorem d_Mo_turn_71 : decode prog_14_method_29_code 71 = .ok (.invokevirtual 157, 3) := by decide +kernel
theorem d_Mo_turn_74 : decode prog_14_method_29_code 74 = .ok (.ireturn, 1) := by decide +kernel
theorem d_Mo_turnTo_0 : decode prog_14_method_27_code 0 = .ok (.iconst 0, 1) := by decide +kernel
theorem d_Mo_turnTo_1 : decode prog_14_method_27_code 1 = .ok (.istore 6, 2) := by decide +kernel
theorem d_Mo_turnTo_3 : decode prog_14_method_27_code 3 = .ok (.iload 6, 2) := by decide +kernel
theorem d_Mo_turnTo_5 : decode prog_14_method_27_code 5 = .ok (.iconst 2, 1) := by decide +kernel
theorem d_Mo_turnTo_6 : decode prog_14_method_27_code 6 = .ok (.iload 5, 2) := by decide +kernel
theorem d_Mo_turnTo_8 : decode prog_14_method_27_code 8 = .ok (.imul, 1) := by decide +kernel
theorem d_Mo_turnTo_9 : decode prog_14_method_27_code 9 = .ok (.if_icmp .ge 64, 3) := by decide +kernel
theorem d_Mo_turnTo_12 : decode prog_14_method_27_code 12 = .ok (.iload 6, 2) := by decide +kernel
theorem d_Mo_turnTo_14 : decode prog_14_method_27_code 14 = .ok (.iconst 2, 1) := by decide +kernel
theorem d_Mo_turnTo_15 : decode prog_14_method_27_code 15 = .ok (.iload 5, 2) := by decide +kernel
theorem d_Mo_turnTo_17 : decode prog_14_method_27_code 17 = .ok (.imul, 1) := by decide +kernel
theorem d_Mo_turnTo_18 : decode prog_14_method_27_code 18 = .ok (.iadd, 1) := by decide +kernel
theorem d_Mo_turnTo_19 : decode prog_14_method_27_code 19 = .ok (.iconst 1, 1) := by decide +kernel
theorem d_Mo_turnTo_20 : decode prog_14_method_27_code 20 = .ok (.isub, 1) := by decide +kernel
theorem d_Mo_turnTo_21 : decode prog_14_method_27_code 21 = .ok (.iconst 2, 1) := by decide +kernel
theorem d_Mo_turnTo_22 : decode prog_14_method_27_code 22 = .ok (.iload 5, 2) := by decide +kernel
theorem d_Mo_turnTo_24 : decode prog_14_method_27_code 24 = .ok (.imul, 1) := by decide +kernel
theorem d_Mo_turnTo_25 : decode prog_14_method_27_code 25 = .ok (.irem, 1) := by decide +kernel
theorem d_Mo_turnTo_26 : decode prog_14_method_27_code 26 = .ok (.istore 7, 2) := by decide +kernel
theorem d_Mo_turnTo_28 : decode prog_14_method_27_code 28 = .ok (.aload_n 3, 1) := by decide +kernel
theorem d_Mo_turnTo_29 : decode prog_14_method_27_code 29 = .ok (.iload 4, 2) := by decide +kernel
theorem d_Mo_turnTo_31 : decode prog_14_method_27_code 31 = .ok (.iload 6, 2) := by decide +kernel
theorem d_Mo_turnTo_33 : decode prog_14_method_27_code 33 = .ok (.iadd, 1) := by decide +kernel
theorem d_Mo_turnTo_34 : decode prog_14_method_27_code 34 = .ok (.iaload, 1) := by decide +kernel
theorem d_Mo_turnTo_35 : decode prog_14_method_27_code 35 = .ok (.iconst 2, 1) := by decide +kernel
theorem d_Mo_turnTo_36 : decode prog_14_method_27_code 36 = .ok (.iload 5, 2) := by decide +kernel
theorem d_Mo_turnTo_38 : decode prog_14_method_27_code 38 = .ok (.imul, 1) := by decide +kernel
theorem d_Mo_turnTo_39 : decode prog_14_method_27_code 39 = .ok (.iadd, 1) := by decide +kernel
theorem d_Mo_turnTo_40 : decode prog_14_method_27_code 40 = .ok (.iconst 1, 1) := by decide +kernel
theorem d_Mo_turnTo_41 : decode prog_14_method_27_code 41 = .ok (.isub, 1) := by decide +kernel
theorem d_Mo_turnTo_42 : decode prog_14_method_27_code 42 = .ok (.iconst 2, 1) := by decide +kernel
theorem d_Mo_turnTo_43 : decode prog_14_method_27_code 43 = .ok (.iload 5, 2) := by decide +kernel
theorem d_Mo_turnTo_45 : decode prog_14_method_27_code 45 = .ok (.imul, 1) := by decide +kernel
theorem d_Mo_turnTo_46 : decode prog_14_method_27_code 46 = .ok (.irem, 1) := by decide +kernel
theorem d_Mo_turnTo_47 : decode prog_14_method_27_code 47 = .ok (.istore 8, 2) := by decide +kernel
theorem d_Mo_turnTo_49 : decode prog_14_method_27_code 49 = .ok (.aload_n 1, 1) := by decide +kernel
theorem d_Mo_turnTo_50 : decode prog_14_method_27_code 50 = .ok (.iload_n 2, 1) := by decide +kernel
theorem d_Mo_turnTo_51 : decode prog_14_method_27_code 51 = .ok (.iload 7, 2) := by decide +kernel
theorem d_Mo_turnTo_53 : decode prog_14_method_27_code 53 = .ok (.iadd, 1) := by decide +kernel
theorem d_Mo_turnTo_54 : decode prog_14_method_27_code 54 = .ok (.iload 7, 2) := by decide +kernel
theorem d_Mo_turnTo_56 : decode prog_14_method_27_code 56 = .ok (.iload 8, 2) := by decide +kernel
theorem d_Mo_turnTo_58 : decode prog_14_method_27_code 58 = .ok (.if_icmp .ge 7, 3) := by decide +kernel
theorem d_Mo_turnTo_61 : decode prog_14_method_27_code 61 = .ok (.iconst 1, 1) := by decide +kernel
theorem d_Mo_turnTo_62 : decode prog_14_method_27_code 62 = .ok (.goto 4, 3) := by decide +kernel
theorem d_Mo_turnTo_65 : decode prog_14_method_27_code 65 = .ok (.iconst (-1), 1) := by decide +kernel
theorem d_Mo_turnTo_66 : decode prog_14_method_27_code 66 = .ok (.iastore, 1) := by decide +kernel
theorem d_Mo_turnTo_67 : decode prog_14_method_27_code 67 = .ok (.iinc 6 1, 3) := by decide +kernel
theorem d_Mo_turnTo_70 : decode prog_14_method_27_code 70 = .ok (.goto (-67), 3) := by decide +kernel
theorem d_Mo_turnTo_73 : decode prog_14_method_27_code 73 = .ok (.return_, 1) := by decide +kernel
theorem d_Mo_mirror_0 : decode prog_14_method_30_code 0 = .ok (.iload_n 1, 1) := by decide +kernel
theorem d_Mo_mirror_1 : decode prog_14_method_30_code 1 = .ok (.invokestatic 152, 3) := by decide +kernel
theorem d_Mo_mirror_4 : decode prog_14_method_30_code 4 = .ok (.ifCond .eq 10, 3) := by decide +kernel
theorem d_Mo_mirror_7 : decode prog_14_method_30_code 7 = .ok (.iload_n 2, 1) := by decide +kernel
theorem d_Mo_mirror_8 : decode prog_14_method_30_code 8 = .ok (.invokestatic 152, 3) := by decide +kernel
theorem d_Mo_mirror_11 : decode prog_14_method_30_code 11 = .ok (.ifCond .ne 6, 3) := by decide +kernel
theorem d_Mo_mirror_14 : decode prog_14_method_30_code 14 = .ok (.ldc 112, 2) := by decide +kernel
theorem d_Mo_mirror_16 : decode prog_14_method_30_code 16 = .ok (.ireturn, 1) := by decide +kernel
theorem d_Mo_mirror_17 : decode prog_14_method_30_code 17 = .ok (.aload_n 0, 1) := by decide +kernel
theorem d_Mo_mirror_18 : decode prog_14_method_30_code 18 = .ok (.getfield 22, 3) := by decide +kernel
theorem d_Mo_mirror_21 : decode prog_14_method_30_code 21 = .ok (.iload_n 2, 1) := by decide +kernel
theorem d_Mo_mirror_22 : decode prog_14_method_30_code 22 = .ok (.iaload, 1) := by decide +kernel
theorem d_Mo_mirror_23 : decode prog_14_method_30_code 23 = .ok (.ifCond .ne 9, 3) := by decide +kernel
theorem d_Mo_mirror_26 : decode prog_14_method_30_code 26 = .ok (.aload_n 0, 1) := by decide +kernel
theorem d_Mo_mirror_27 : decode prog_14_method_30_code 27 = .ok (.iconst 1, 1) := by decide +kernel
theorem d_Mo_mirror_28 : decode prog_14_method_30_code 28 = .ok (.invokevirtual 113, 3) := by decide +kernel
theorem d_Mo_mirror_31 : decode prog_14_method_30_code 31 = .ok (.ireturn, 1) := by decide +kernel
theorem d_Mo_mirror_32 : decode prog_14_method_30_code 32 = .ok (.aload_n 0, 1) := by decide +kernel
theorem d_Mo_mirror_33 : decode prog_14_method_30_code 33 = .ok (.getfield 22, 3) := by decide +kernel
theorem d_Mo_mirror_36 : decode prog_14_method_30_code 36 = .ok (.iload_n 2, 1) := by decide +kernel
theorem d_Mo_mirror_37 : decode prog_14_method_30_code 37 = .ok (.iaload, 1) := by decide +kernel
theorem d_Mo_mirror_38 : decode prog_14_method_30_code 38 = .ok (.iconst 5, 1) := by decide +kernel
theorem d_Mo_mirror_39 : decode prog_14_method_30_code 39 = .ok (.invokestatic 161, 3) := by decide +kernel
theorem d_Mo_mirror_42 : decode prog_14_method_30_code 42 = .ok (.istore_n 3, 1) := by decide +kernel
theorem d_Mo_mirror_43 : decode prog_14_method_30_code 43 = .ok (.iload_n 3, 1) := by decide +kernel
theorem d_Mo_mirror_44 : decode prog_14_method_30_code 44 = .ok (.ifCond .ne 22, 3) := by decide +kernel
theorem d_Mo_mirror_47 : decode prog_14_method_30_code 47 = .ok (.aload_n 0, 1) := by decide +kernel
theorem d_Mo_mirror_48 : decode prog_14_method_30_code 48 = .ok (.getfield 22, 3) := by decide +kernel
theorem d_Mo_mirror_51 : decode prog_14_method_30_code 51 = .ok (.iload_n 2, 1) := by decide +kernel
theorem d_Mo_mirror_52 : decode prog_14_method_30_code 52 = .ok (.iaload, 1) := by decide +kernel
theorem d_Mo_mirror_53 : decode prog_14_method_30_code 53 = .ok (.iconst 2, 1) := by decide +kernel
theorem d_Mo_mirror_54 : decode prog_14_method_30_code 54 = .ok (.invokestatic 161, 3) := by decide +kernel
theorem d_Mo_mirror_57 : decode prog_14_method_30_code 57 = .ok (.ifCond .ne 9, 3) := by decide +kernel
theorem d_Mo_mirror_60 : decode prog_14_method_30_code 60 = .ok (.aload_n 0, 1) := by decide +kernel
theorem d_Mo_mirror_61 : decode prog_14_method_30_code 61 = .ok (.iconst 3, 1) := by decide +kernel
theorem d_Mo_mirror_62 : decode prog_14_method_30_code 62 = .ok (.invokevirtual 113, 3) := by decide +kernel
theorem d_Mo_mirror_65 : decode prog_14_method_30_code 65 = .ok (.ireturn, 1) := by decide +kernel
theorem d_Mo_mirror_66 : decode prog_14_method_30_code 66 = .ok (.aload_n 0, 1) := by decide +kernel
theorem d_Mo_mirror_67 : decode prog_14_method_30_code 67 = .ok (.getfield 25, 3) := by decide +kernel
theorem d_Mo_mirror_70 : decode prog_14_method_30_code 70 = .ok (.bipush 10, 2) := by decide +kernel
theorem d_Mo_mirror_72 : decode prog_14_method_30_code 72 = .ok (.aload_n 0, 1) := by decide +kernel
theorem d_Mo_mirror_73 : decode prog_14_method_30_code 73 = .ok (.getfield 25, 3) := by decide +kernel
theorem d_Mo_mirror_76 : decode prog_14_method_30_code 76 = .ok (.iload_n 2, 1) := by decide +kernel
theorem d_Mo_mirror_77 : decode prog_14_method_30_code 77 = .ok (.iaload, 1) := by decide +kernel
theorem d_Mo_mirror_78 : decode prog_14_method_30_code 78 = .ok (.iastore, 1) := by decide +kernel
theorem d_Mo_mirror_79 : decode prog_14_method_30_code 79 = .ok (.aload_n 0, 1) := by decide +kernel
theorem d_Mo_mirror_80 : decode prog_14_method_30_code 80 = .ok (.aload_n 0, 1) := by decide +kernel
theorem d_Mo_mirror_81 : decode prog_14_method_30_code 81 = .ok (.getfield 28, 3) := by decide +kernel
theorem d_Mo_mirror_84 : decode prog_14_method_30_code 84 = .ok (.sipush 400, 3) := by decide +kernel
theorem d_Mo_mirror_87 : decode prog_14_method_30_code 87 = .ok (.aload_n 0, 1) := by decide +kernel
theorem d_Mo_mirror_88 : decode prog_14_method_30_code 88 = .ok (.getfield 28, 3) := by decide +kernel
theorem d_Mo_mirror_91 : decode prog_14_method_30_code 91 = .ok (.bipush 40, 2) := by decide +kernel
theorem d_Mo_mirror_93 : decode prog_14_method_30_code 93 = .ok (.iload_n 2, 1) := by decide +kernel
theorem d_Mo_mirror_94 : decode prog_14_method_30_code 94 = .ok (.imul, 1) := by decide +kernel
theorem d_Mo_mirror_95 : decode prog_14_method_30_code 95 = .ok (.aload_n 0, 1) := by decide +kernel
theorem d_Mo_mirror_96 : decode prog_14_method_30_code 96 = .ok (.getfield 25, 3) := by decide +kernel
theorem d_Mo_mirror_99 : decode prog_14_method_30_code 99 = .ok (.iload_n 2, 1) := by decide +kernel
theorem d_Mo_mirror_100 : decode prog_14_method_30_code 100 = .ok (.iaload, 1) := by decide +kernel
theorem d_Mo_mirror_101 : decode prog_14_method_30_code 101 = .ok (.invokevirtual 185, 3) := by decide +kernel
theorem d_Mo_mirror_104 : decode prog_14_method_30_code 104 = .ok (.iload_n 3, 1) := by decide +kernel
theorem d_Mo_mirror_105 : decode prog_14_method_30_code 105 = .ok (.ifCond .eq 28, 3) := by decide +kernel
theorem d_Mo_mirror_108 : decode prog_14_method_30_code 108 = .ok (.aload_n 0, 1) := by decide +kernel
theorem d_Mo_mirror_109 : decode prog_14_method_30_code 109 = .ok (.aload_n 0, 1) := by decide +kernel
theorem d_Mo_mirror_110 : decode prog_14_method_30_code 110 = .ok (.getfield 31, 3) := by decide +kernel
theorem d_Mo_mirror_113 : decode prog_14_method_30_code 113 = .ok (.sipush 400, 3) := by decide +kernel
theorem d_Mo_mirror_116 : decode prog_14_method_30_code 116 = .ok (.aload_n 0, 1) := by decide +kernel
theorem d_Mo_mirror_117 : decode prog_14_method_30_code 117 = .ok (.getfield 31, 3) := by decide +kernel
theorem d_Mo_mirror_120 : decode prog_14_method_30_code 120 = .ok (.bipush 40, 2) := by decide +kernel
theorem d_Mo_mirror_122 : decode prog_14_method_30_code 122 = .ok (.iload_n 2, 1) := by decide +kernel
theorem d_Mo_mirror_123 : decode prog_14_method_30_code 123 = .ok (.imul, 1) := by decide +kernel
theorem d_Mo_mirror_124 : decode prog_14_method_30_code 124 = .ok (.aload_n 0, 1) := by decide +kernel
theorem d_Mo_mirror_125 : decode prog_14_method_30_code 125 = .ok (.getfield 25, 3) := by decide +kernel
theorem d_Mo_mirror_128 : decode prog_14_method_30_code 128 = .ok (.iload_n 2, 1) := by decide +kernel
theorem d_Mo_mirror_129 : decode prog_14_method_30_code 129 = .ok (.iaload, 1) := by decide +kernel
theorem d_Mo_mirror_130 : decode prog_14_method_30_code 130 = .ok (.invokevirtual 185, 3) := by decide +kernel
theorem d_Mo_mirror_133 : decode prog_14_method_30_code 133 = .ok (.aload_n 0, 1) := by decide +kernel
theorem d_Mo_mirror_134 : decode prog_14_method_30_code 134 = .ok (.iload_n 1, 1) := by decide +kernel
theorem d_Mo_mirror_135 : decode prog_14_method_30_code 135 = .ok (.iload_n 3, 1) := by decide +kernel
theorem d_Mo_mirror_136 : decode prog_14_method_30_code 136 = .ok (.ifCond .eq 7, 3) := by decide +kernel
theorem d_Mo_mirror_139 : decode prog_14_method_30_code 139 = .ok (.iconst 5, 1) := by decide +kernel
theorem d_Mo_mirror_140 : decode prog_14_method_30_code 140 = .ok (.goto 4, 3) := by decide +kernel
theorem d_Mo_mirror_143 : decode prog_14_method_30_code 143 = .ok (.iconst 1, 1) := by decide +kernel
theorem d_Mo_mirror_144 : decode prog_14_method_30_code 144 = .ok (.invokevirtual 157, 3) := by decide +kernel
theorem d_Mo_mirror_147 : decode prog_14_method_30_code 147 = .ok (.ireturn, 1) := by decide +kernel
theorem d_Mo_mirrorTo_0 : decode prog_14_method_28_code 0 = .ok (.iconst 0, 1) := by decide +kernel
theorem d_Mo_mirrorTo_1 : decode prog_14_method_28_code 1 = .ok (.istore 6, 2) := by decide +kernel
theorem d_Mo_mirrorTo_3 : decode prog_14_method_28_code 3 = .ok (.iload 6, 2) := by decide +kernel
theorem d_Mo_mirrorTo_5 : decode prog_14_method_28_code 5 = .ok (.iconst 2, 1) := by decide +kernel
theorem d_Mo_mirrorTo_6 : decode prog_14_method_28_code 6 = .ok (.iload 5, 2) := by decide +kernel
theorem d_Mo_mirrorTo_8 : decode prog_14_method_28_code 8 = .ok (.imul, 1) := by decide +kernel
theorem d_Mo_mirrorTo_9 : decode prog_14_method_28_code 9 = .ok (.if_icmp .ge 30, 3) := by decide +kernel
theorem d_Mo_mirrorTo_12 : decode prog_14_method_28_code 12 = .ok (.aload_n 1, 1) := by decide +kernel
theorem d_Mo_mirrorTo_13 : decode prog_14_method_28_code 13 = .ok (.iload_n 2, 1) := by decide +kernel
theorem d_Mo_mirrorTo_14 : decode prog_14_method_28_code 14 = .ok (.iconst 2, 1) := by decide +kernel
theorem d_Mo_mirrorTo_15 : decode prog_14_method_28_code 15 = .ok (.iload 5, 2) := by decide +kernel
theorem d_Mo_mirrorTo_17 : decode prog_14_method_28_code 17 = .ok (.imul, 1) := by decide +kernel
theorem d_Mo_mirrorTo_18 : decode prog_14_method_28_code 18 = .ok (.iadd, 1) := by decide +kernel
theorem d_Mo_mirrorTo_19 : decode prog_14_method_28_code 19 = .ok (.iconst 1, 1) := by decide +kernel
theorem d_Mo_mirrorTo_20 : decode prog_14_method_28_code 20 = .ok (.isub, 1) := by decide +kernel
theorem d_Mo_mirrorTo_21 : decode prog_14_method_28_code 21 = .ok (.iload 6, 2) := by decide +kernel
theorem d_Mo_mirrorTo_23 : decode prog_14_method_28_code 23 = .ok (.isub, 1) := by decide +kernel
theorem d_Mo_mirrorTo_24 : decode prog_14_method_28_code 24 = .ok (.aload_n 3, 1) := by decide +kernel
theorem d_Mo_mirrorTo_25 : decode prog_14_method_28_code 25 = .ok (.iload 4, 2) := by decide +kernel
theorem d_Mo_mirrorTo_27 : decode prog_14_method_28_code 27 = .ok (.iload 6, 2) := by decide +kernel
theorem d_Mo_mirrorTo_29 : decode prog_14_method_28_code 29 = .ok (.iadd, 1) := by decide +kernel
theorem d_Mo_mirrorTo_30 : decode prog_14_method_28_code 30 = .ok (.iaload, 1) := by decide +kernel
theorem d_Mo_mirrorTo_31 : decode prog_14_method_28_code 31 = .ok (.ineg, 1) := by decide +kernel
theorem d_Mo_mirrorTo_32 : decode prog_14_method_28_code 32 = .ok (.iastore, 1) := by decide +kernel
theorem d_Mo_mirrorTo_33 : decode prog_14_method_28_code 33 = .ok (.iinc 6 1, 3) := by decide +kernel
theorem d_Mo_mirrorTo_36 : decode prog_14_method_28_code 36 = .ok (.goto (-33), 3) := by decide +kernel
theorem d_Mo_mirrorTo_39 : decode prog_14_method_28_code 39 = .ok (.return_, 1) := by decide +kernel
theorem d_Mo_clear_0 : decode prog_14_method_31_code 0 = .ok (.iload_n 1, 1) := by decide +kernel
theorem d_Mo_clear_1 : decode prog_14_method_31_code 1 = .ok (.invokestatic 152, 3) := by decide +kernel
theorem d_Mo_clear_4 : decode prog_14_method_31_code 4 = .ok (.ifCond .ne 6, 3) := by decide +kernel
theorem d_Mo_clear_7 : decode prog_14_method_31_code 7 = .ok (.ldc 112, 2) := by decide +kernel
theorem d_Mo_clear_9 : decode prog_14_method_31_code 9 = .ok (.ireturn, 1) := by decide +kernel
theorem d_Mo_clear_10 : decode prog_14_method_31_code 10 = .ok (.aload_n 0, 1) := by decide +kernel
theorem d_Mo_clear_11 : decode prog_14_method_31_code 11 = .ok (.getfield 22, 3) := by decide +kernel
theorem d_Mo_clear_14 : decode prog_14_method_31_code 14 = .ok (.iload_n 1, 1) := by decide +kernel
theorem d_Mo_clear_15 : decode prog_14_method_31_code 15 = .ok (.iaload, 1) := by decide +kernel
theorem d_Mo_clear_16 : decode prog_14_method_31_code 16 = .ok (.ifCond .le 7, 3) := by decide +kernel
theorem d_Mo_clear_19 : decode prog_14_method_31_code 19 = .ok (.iconst 1, 1) := by decide +kernel
theorem d_Mo_clear_20 : decode prog_14_method_31_code 20 = .ok (.goto 4, 3) := by decide +kernel
theorem d_Mo_clear_23 : decode prog_14_method_31_code 23 = .ok (.iconst 0, 1) := by decide +kernel
theorem d_Mo_clear_24 : decode prog_14_method_31_code 24 = .ok (.istore_n 2, 1) := by decide +kernel
theorem d_Mo_clear_25 : decode prog_14_method_31_code 25 = .ok (.aload_n 0, 1) := by decide +kernel
theorem d_Mo_clear_26 : decode prog_14_method_31_code 26 = .ok (.getfield 22, 3) := by decide +kernel
theorem d_Mo_clear_29 : decode prog_14_method_31_code 29 = .ok (.iload_n 1, 1) := by decide +kernel
theorem d_Mo_clear_30 : decode prog_14_method_31_code 30 = .ok (.iconst 0, 1) := by decide +kernel
theorem d_Mo_clear_31 : decode prog_14_method_31_code 31 = .ok (.iastore, 1) := by decide +kernel
theorem d_Mo_clear_32 : decode prog_14_method_31_code 32 = .ok (.iload_n 2, 1) := by decide +kernel
theorem d_Mo_clear_33 : decode prog_14_method_31_code 33 = .ok (.ireturn, 1) := by decide +kernel
theorem d_Mo_kind_0 : decode prog_14_method_32_code 0 = .ok (.iload_n 1, 1) := by decide +kernel
theorem d_Mo_kind_1 : decode prog_14_method_32_code 1 = .ok (.invokestatic 152, 3) := by decide +kernel
theorem d_Mo_kind_4 : decode prog_14_method_32_code 4 = .ok (.ifCond .ne 6, 3) := by decide +kernel
theorem d_Mo_kind_7 : decode prog_14_method_32_code 7 = .ok (.ldc 112, 2) := by decide +kernel
theorem d_Mo_kind_9 : decode prog_14_method_32_code 9 = .ok (.ireturn, 1) := by decide +kernel
theorem d_Mo_kind_10 : decode prog_14_method_32_code 10 = .ok (.aload_n 0, 1) := by decide +kernel
theorem d_Mo_kind_11 : decode prog_14_method_32_code 11 = .ok (.getfield 22, 3) := by decide +kernel
theorem d_Mo_kind_14 : decode prog_14_method_32_code 14 = .ok (.iload_n 1, 1) := by decide +kernel
theorem d_Mo_kind_15 : decode prog_14_method_32_code 15 = .ok (.iaload, 1) := by decide +kernel
theorem d_Mo_kind_16 : decode prog_14_method_32_code 16 = .ok (.ifCond .ne 11, 3) := by decide +kernel
theorem d_Mo_kind_19 : decode prog_14_method_32_code 19 = .ok (.aload_n 0, 1) := by decide +kernel
theorem d_Mo_kind_20 : decode prog_14_method_32_code 20 = .ok (.iconst 1, 1) := by decide +kernel
theorem d_Mo_kind_21 : decode prog_14_method_32_code 21 = .ok (.invokevirtual 113, 3) := by decide +kernel
theorem d_Mo_kind_24 : decode prog_14_method_32_code 24 = .ok (.goto 13, 3) := by decide +kernel
theorem d_Mo_kind_27 : decode prog_14_method_32_code 27 = .ok (.aload_n 0, 1) := by decide +kernel
theorem d_Mo_kind_28 : decode prog_14_method_32_code 28 = .ok (.aload_n 0, 1) := by decide +kernel
theorem d_Mo_kind_29 : decode prog_14_method_32_code 29 = .ok (.getfield 22, 3) := by decide +kernel
theorem d_Mo_kind_32 : decode prog_14_method_32_code 32 = .ok (.iload_n 1, 1) := by decide +kernel
theorem d_Mo_kind_33 : decode prog_14_method_32_code 33 = .ok (.iaload, 1) := by decide +kernel
theorem d_Mo_kind_34 : decode prog_14_method_32_code 34 = .ok (.invokevirtual 117, 3) := by decide +kernel
theorem d_Mo_kind_37 : decode prog_14_method_32_code 37 = .ok (.ireturn, 1) := by decide +kernel
theorem d_Mo_is_0 : decode prog_14_method_33_code 0 = .ok (.iload_n 1, 1) := by decide +kernel
theorem d_Mo_is_1 : decode prog_14_method_33_code 1 = .ok (.invokestatic 152, 3) := by decide +kernel
theorem d_Mo_is_4 : decode prog_14_method_33_code 4 = .ok (.ifCond .eq 15, 3) := by decide +kernel
theorem d_Mo_is_7 : decode prog_14_method_33_code 7 = .ok (.iload_n 2, 1) := by decide +kernel
theorem d_Mo_is_8 : decode prog_14_method_33_code 8 = .ok (.i2l, 1) := by decide +kernel
theorem d_Mo_is_9 : decode prog_14_method_33_code 9 = .ok (.lconst 0, 1) := by decide +kernel
theorem d_Mo_is_10 : decode prog_14_method_33_code 10 = .ok (.ldc2_w 188, 3) := by decide +kernel
theorem d_Mo_is_13 : decode prog_14_method_33_code 13 = .ok (.invokestatic 102, 3) := by decide +kernel
theorem d_Mo_is_16 : decode prog_14_method_33_code 16 = .ok (.ifCond .ne 6, 3) := by decide +kernel
theorem d_Mo_is_19 : decode prog_14_method_33_code 19 = .ok (.ldc 112, 2) := by decide +kernel
theorem d_Mo_is_21 : decode prog_14_method_33_code 21 = .ok (.ireturn, 1) := by decide +kernel
theorem d_Mo_is_22 : decode prog_14_method_33_code 22 = .ok (.aload_n 0, 1) := by decide +kernel
theorem d_Mo_is_23 : decode prog_14_method_33_code 23 = .ok (.getfield 22, 3) := by decide +kernel
theorem d_Mo_is_26 : decode prog_14_method_33_code 26 = .ok (.iload_n 1, 1) := by decide +kernel
theorem d_Mo_is_27 : decode prog_14_method_33_code 27 = .ok (.iaload, 1) := by decide +kernel
theorem d_Mo_is_28 : decode prog_14_method_33_code 28 = .ok (.ifCond .le 20, 3) := by decide +kernel
theorem d_Mo_is_31 : decode prog_14_method_33_code 31 = .ok (.aload_n 0, 1) := by decide +kernel
theorem d_Mo_is_32 : decode prog_14_method_33_code 32 = .ok (.getfield 22, 3) := by decide +kernel
theorem d_Mo_is_35 : decode prog_14_method_33_code 35 = .ok (.iload_n 1, 1) := by decide +kernel
theorem d_Mo_is_36 : decode prog_14_method_33_code 36 = .ok (.iaload, 1) := by decide +kernel
theorem d_Mo_is_37 : decode prog_14_method_33_code 37 = .ok (.iload_n 2, 1) := by decide +kernel
theorem d_Mo_is_38 : decode prog_14_method_33_code 38 = .ok (.invokestatic 161, 3) := by decide +kernel
theorem d_Mo_is_41 : decode prog_14_method_33_code 41 = .ok (.ifCond .eq 7, 3) := by decide +kernel
theorem d_Mo_is_44 : decode prog_14_method_33_code 44 = .ok (.iconst 1, 1) := by decide +kernel
theorem d_Mo_is_45 : decode prog_14_method_33_code 45 = .ok (.goto 4, 3) := by decide +kernel
theorem d_Mo_is_48 : decode prog_14_method_33_code 48 = .ok (.iconst 0, 1) := by decide +kernel
theorem d_Mo_is_49 : decode prog_14_method_33_code 49 = .ok (.ireturn, 1) := by decide +kernel
theorem d_Mo_as_0 : decode prog_14_method_34_code 0 = .ok (.iload_n 1, 1) := by decide +kernel
theorem d_Mo_as_1 : decode prog_14_method_34_code 1 = .ok (.invokestatic 152, 3) := by decide +kernel
theorem d_Mo_as_4 : decode prog_14_method_34_code 4 = .ok (.ifCond .eq 15, 3) := by decide +kernel
theorem d_Mo_as_7 : decode prog_14_method_34_code 7 = .ok (.iload_n 2, 1) := by decide +kernel
theorem d_Mo_as_8 : decode prog_14_method_34_code 8 = .ok (.i2l, 1) := by decide +kernel
theorem d_Mo_as_9 : decode prog_14_method_34_code 9 = .ok (.lconst 0, 1) := by decide +kernel
theorem d_Mo_as_10 : decode prog_14_method_34_code 10 = .ok (.ldc2_w 188, 3) := by decide +kernel
theorem d_Mo_as_13 : decode prog_14_method_34_code 13 = .ok (.invokestatic 102, 3) := by decide +kernel
theorem d_Mo_as_16 : decode prog_14_method_34_code 16 = .ok (.ifCond .ne 6, 3) := by decide +kernel
theorem d_Mo_as_19 : decode prog_14_method_34_code 19 = .ok (.ldc 112, 2) := by decide +kernel
theorem d_Mo_as_21 : decode prog_14_method_34_code 21 = .ok (.ireturn, 1) := by decide +kernel
theorem d_Mo_as_22 : decode prog_14_method_34_code 22 = .ok (.aload_n 0, 1) := by decide +kernel
theorem d_Mo_as_23 : decode prog_14_method_34_code 23 = .ok (.iload_n 1, 1) := by decide +kernel
theorem d_Mo_as_24 : decode prog_14_method_34_code 24 = .ok (.iload_n 2, 1) := by decide +kernel
theorem d_Mo_as_25 : decode prog_14_method_34_code 25 = .ok (.invokevirtual 165, 3) := by decide +kernel
theorem d_Mo_as_28 : decode prog_14_method_34_code 28 = .ok (.istore_n 3, 1) := by decide +kernel
theorem d_Mo_as_29 : decode prog_14_method_34_code 29 = .ok (.iload_n 3, 1) := by decide +kernel
theorem d_Mo_as_30 : decode prog_14_method_34_code 30 = .ok (.ifCond .eq 7, 3) := by decide +kernel
theorem d_Mo_as_33 : decode prog_14_method_34_code 33 = .ok (.iload_n 3, 1) := by decide +kernel
theorem d_Mo_as_34 : decode prog_14_method_34_code 34 = .ok (.goto 13, 3) := by decide +kernel
theorem d_Mo_as_37 : decode prog_14_method_34_code 37 = .ok (.aload_n 0, 1) := by decide +kernel
theorem d_Mo_as_38 : decode prog_14_method_34_code 38 = .ok (.aload_n 0, 1) := by decide +kernel
theorem d_Mo_as_39 : decode prog_14_method_34_code 39 = .ok (.getfield 25, 3) := by decide +kernel
theorem d_Mo_as_42 : decode prog_14_method_34_code 42 = .ok (.iload_n 1, 1) := by decide +kernel
theorem d_Mo_as_43 : decode prog_14_method_34_code 43 = .ok (.iaload, 1) := by decide +kernel
theorem d_Mo_as_44 : decode prog_14_method_34_code 44 = .ok (.invokevirtual 117, 3) := by decide +kernel
theorem d_Mo_as_47 : decode prog_14_method_34_code 47 = .ok (.ireturn, 1) := by decide +kernel
theorem d_Mo_ask_0 : decode prog_14_method_39_code 0 = .ok (.iload_n 1, 1) := by decide +kernel
theorem d_Mo_ask_1 : decode prog_14_method_39_code 1 = .ok (.invokestatic 152, 3) := by decide +kernel
theorem d_Mo_ask_4 : decode prog_14_method_39_code 4 = .ok (.ifCond .eq 15, 3) := by decide +kernel
theorem d_Mo_ask_7 : decode prog_14_method_39_code 7 = .ok (.iload_n 2, 1) := by decide +kernel
theorem d_Mo_ask_8 : decode prog_14_method_39_code 8 = .ok (.i2l, 1) := by decide +kernel
theorem d_Mo_ask_9 : decode prog_14_method_39_code 9 = .ok (.lconst 0, 1) := by decide +kernel
theorem d_Mo_ask_10 : decode prog_14_method_39_code 10 = .ok (.ldc2_w 110, 3) := by decide +kernel
theorem d_Mo_ask_13 : decode prog_14_method_39_code 13 = .ok (.invokestatic 102, 3) := by decide +kernel
theorem d_Mo_ask_16 : decode prog_14_method_39_code 16 = .ok (.ifCond .ne 6, 3) := by decide +kernel
theorem d_Mo_ask_19 : decode prog_14_method_39_code 19 = .ok (.ldc 112, 2) := by decide +kernel
theorem d_Mo_ask_21 : decode prog_14_method_39_code 21 = .ok (.ireturn, 1) := by decide +kernel
theorem d_Mo_ask_22 : decode prog_14_method_39_code 22 = .ok (.aload_n 0, 1) := by decide +kernel
theorem d_Mo_ask_23 : decode prog_14_method_39_code 23 = .ok (.iconst 0, 1) := by decide +kernel
theorem d_Mo_ask_24 : decode prog_14_method_39_code 24 = .ok (.putfield 190, 3) := by decide +kernel
theorem d_Mo_ask_27 : decode prog_14_method_39_code 27 = .ok (.aload_n 0, 1) := by decide +kernel
theorem d_Mo_ask_28 : decode prog_14_method_39_code 28 = .ok (.getfield 22, 3) := by decide +kernel
theorem d_Mo_ask_31 : decode prog_14_method_39_code 31 = .ok (.iload_n 1, 1) := by decide +kernel
theorem d_Mo_ask_32 : decode prog_14_method_39_code 32 = .ok (.iaload, 1) := by decide +kernel
theorem d_Mo_ask_33 : decode prog_14_method_39_code 33 = .ok (.ifCond .ne 9, 3) := by decide +kernel
theorem d_Mo_ask_36 : decode prog_14_method_39_code 36 = .ok (.aload_n 0, 1) := by decide +kernel
theorem d_Mo_ask_37 : decode prog_14_method_39_code 37 = .ok (.iconst 1, 1) := by decide +kernel
theorem d_Mo_ask_38 : decode prog_14_method_39_code 38 = .ok (.invokevirtual 113, 3) := by decide +kernel
theorem d_Mo_ask_41 : decode prog_14_method_39_code 41 = .ok (.ireturn, 1) := by decide +kernel
theorem d_Mo_ask_42 : decode prog_14_method_39_code 42 = .ok (.aload_n 0, 1) := by decide +kernel
theorem d_Mo_ask_43 : decode prog_14_method_39_code 43 = .ok (.iload_n 2, 1) := by decide +kernel
theorem d_Mo_ask_44 : decode prog_14_method_39_code 44 = .ok (.ifCond .ne 11, 3) := by decide +kernel
theorem d_Mo_ask_47 : decode prog_14_method_39_code 47 = .ok (.aload_n 0, 1) := by decide +kernel
theorem d_Mo_ask_48 : decode prog_14_method_39_code 48 = .ok (.iload_n 1, 1) := by decide +kernel
theorem d_Mo_ask_49 : decode prog_14_method_39_code 49 = .ok (.invokevirtual 197, 3) := by decide +kernel
theorem d_Mo_ask_52 : decode prog_14_method_39_code 52 = .ok (.goto 21, 3) := by decide +kernel
theorem d_Mo_ask_55 : decode prog_14_method_39_code 55 = .ok (.iload_n 2, 1) := by decide +kernel
theorem d_Mo_ask_56 : decode prog_14_method_39_code 56 = .ok (.iconst 1, 1) := by decide +kernel
theorem d_Mo_ask_57 : decode prog_14_method_39_code 57 = .ok (.if_icmp .ne 11, 3) := by decide +kernel
theorem d_Mo_ask_60 : decode prog_14_method_39_code 60 = .ok (.aload_n 0, 1) := by decide +kernel
theorem d_Mo_ask_61 : decode prog_14_method_39_code 61 = .ok (.iload_n 1, 1) := by decide +kernel
theorem d_Mo_ask_62 : decode prog_14_method_39_code 62 = .ok (.invokevirtual 200, 3) := by decide +kernel
theorem d_Mo_ask_65 : decode prog_14_method_39_code 65 = .ok (.goto 8, 3) := by decide +kernel
theorem d_Mo_ask_68 : decode prog_14_method_39_code 68 = .ok (.aload_n 0, 1) := by decide +kernel
theorem d_Mo_ask_69 : decode prog_14_method_39_code 69 = .ok (.iload_n 1, 1) := by decide +kernel
theorem d_Mo_ask_70 : decode prog_14_method_39_code 70 = .ok (.invokevirtual 203, 3) := by decide +kernel
theorem d_Mo_ask_73 : decode prog_14_method_39_code 73 = .ok (.invokevirtual 117, 3) := by decide +kernel
theorem d_Mo_ask_76 : decode prog_14_method_39_code 76 = .ok (.ireturn, 1) := by decide +kernel
theorem d_Mo_sizeOf_0 : decode prog_14_method_36_code 0 = .ok (.aload_n 0, 1) := by decide +kernel
theorem d_Mo_sizeOf_1 : decode prog_14_method_36_code 1 = .ok (.getfield 22, 3) := by decide +kernel
theorem d_Mo_sizeOf_4 : decode prog_14_method_36_code 4 = .ok (.iload_n 1, 1) := by decide +kernel
theorem d_Mo_sizeOf_5 : decode prog_14_method_36_code 5 = .ok (.iaload, 1) := by decide +kernel
theorem d_Mo_sizeOf_6 : decode prog_14_method_36_code 6 = .ok (.iconst 5, 1) := by decide +kernel
theorem d_Mo_sizeOf_7 : decode prog_14_method_36_code 7 = .ok (.invokestatic 161, 3) := by decide +kernel
theorem d_Mo_sizeOf_10 : decode prog_14_method_36_code 10 = .ok (.istore_n 2, 1) := by decide +kernel
theorem d_Mo_sizeOf_11 : decode prog_14_method_36_code 11 = .ok (.iload_n 2, 1) := by decide +kernel
theorem d_Mo_sizeOf_12 : decode prog_14_method_36_code 12 = .ok (.ifCond .eq 9, 3) := by decide +kernel
theorem d_Mo_sizeOf_15 : decode prog_14_method_36_code 15 = .ok (.aload_n 0, 1) := by decide +kernel
theorem d_Mo_sizeOf_16 : decode prog_14_method_36_code 16 = .ok (.bipush 11, 2) := by decide +kernel
theorem d_Mo_sizeOf_18 : decode prog_14_method_36_code 18 = .ok (.invokevirtual 193, 3) := by decide +kernel
theorem d_Mo_sizeOf_21 : decode prog_14_method_36_code 21 = .ok (.aload_n 0, 1) := by decide +kernel
theorem d_Mo_sizeOf_22 : decode prog_14_method_36_code 22 = .ok (.bipush 10, 2) := by decide +kernel
theorem d_Mo_sizeOf_24 : decode prog_14_method_36_code 24 = .ok (.invokevirtual 193, 3) := by decide +kernel
theorem d_Mo_sizeOf_27 : decode prog_14_method_36_code 27 = .ok (.iload_n 2, 1) := by decide +kernel
theorem d_Mo_sizeOf_28 : decode prog_14_method_36_code 28 = .ok (.ifCond .eq 14, 3) := by decide +kernel
theorem d_Mo_sizeOf_31 : decode prog_14_method_36_code 31 = .ok (.iconst 2, 1) := by decide +kernel
theorem d_Mo_sizeOf_32 : decode prog_14_method_36_code 32 = .ok (.aload_n 0, 1) := by decide +kernel
theorem d_Mo_sizeOf_33 : decode prog_14_method_36_code 33 = .ok (.getfield 25, 3) := by decide +kernel
theorem d_Mo_sizeOf_36 : decode prog_14_method_36_code 36 = .ok (.iload_n 1, 1) := by decide +kernel
theorem d_Mo_sizeOf_37 : decode prog_14_method_36_code 37 = .ok (.iaload, 1) := by decide +kernel
theorem d_Mo_sizeOf_38 : decode prog_14_method_36_code 38 = .ok (.imul, 1) := by decide +kernel
theorem d_Mo_sizeOf_39 : decode prog_14_method_36_code 39 = .ok (.goto 9, 3) := by decide +kernel
theorem d_Mo_sizeOf_42 : decode prog_14_method_36_code 42 = .ok (.aload_n 0, 1) := by decide +kernel
theorem d_Mo_sizeOf_43 : decode prog_14_method_36_code 43 = .ok (.getfield 25, 3) := by decide +kernel
theorem d_Mo_sizeOf_46 : decode prog_14_method_36_code 46 = .ok (.iload_n 1, 1) := by decide +kernel
theorem d_Mo_sizeOf_47 : decode prog_14_method_36_code 47 = .ok (.iaload, 1) := by decide +kernel
theorem d_Mo_sizeOf_48 : decode prog_14_method_36_code 48 = .ok (.ireturn, 1) := by decide +kernel
theorem d_Mo_begins_0 : decode prog_14_method_35_code 0 = .ok (.aload_n 0, 1) := by decide +kernel
theorem d_Mo_begins_1 : decode prog_14_method_35_code 1 = .ok (.getfield 190, 3) := by decide +kernel
theorem d_Mo_begins_4 : decode prog_14_method_35_code 4 = .ok (.bipush 16, 2) := by decide +kernel
theorem d_Mo_begins_6 : decode prog_14_method_35_code 6 = .ok (.if_icmp .ge 23, 3) := by decide +kernel
theorem d_Mo_begins_9 : decode prog_14_method_35_code 9 = .ok (.aload_n 0, 1) := by decide +kernel
theorem d_Mo_begins_10 : decode prog_14_method_35_code 10 = .ok (.getfield 40, 3) := by decide +kernel
theorem d_Mo_begins_13 : decode prog_14_method_35_code 13 = .ok (.aload_n 0, 1) := by decide +kernel
theorem d_Mo_begins_14 : decode prog_14_method_35_code 14 = .ok (.getfield 190, 3) := by decide +kernel
theorem d_Mo_begins_17 : decode prog_14_method_35_code 17 = .ok (.iload_n 1, 1) := by decide +kernel
theorem d_Mo_begins_18 : decode prog_14_method_35_code 18 = .ok (.iastore, 1) := by decide +kernel
theorem d_Mo_begins_19 : decode prog_14_method_35_code 19 = .ok (.aload_n 0, 1) := by decide +kernel
theorem d_Mo_begins_20 : decode prog_14_method_35_code 20 = .ok (.dup, 1) := by decide +kernel
theorem d_Mo_begins_21 : decode prog_14_method_35_code 21 = .ok (.getfield 190, 3) := by decide +kernel
theorem d_Mo_begins_24 : decode prog_14_method_35_code 24 = .ok (.iconst 1, 1) := by decide +kernel
theorem d_Mo_begins_25 : decode prog_14_method_35_code 25 = .ok (.iadd, 1) := by decide +kernel
theorem d_Mo_begins_26 : decode prog_14_method_35_code 26 = .ok (.putfield 190, 3) := by decide +kernel
theorem d_Mo_begins_29 : decode prog_14_method_35_code 29 = .ok (.return_, 1) := by decide +kernel
theorem d_Mo_worth_0 : decode prog_14_method_37_code 0 = .ok (.aload_n 0, 1) := by decide +kernel
theorem d_Mo_worth_1 : decode prog_14_method_37_code 1 = .ok (.getfield 22, 3) := by decide +kernel
theorem d_Mo_worth_4 : decode prog_14_method_37_code 4 = .ok (.iload_n 1, 1) := by decide +kernel
theorem d_Mo_worth_5 : decode prog_14_method_37_code 5 = .ok (.iaload, 1) := by decide +kernel
theorem d_Mo_worth_6 : decode prog_14_method_37_code 6 = .ok (.istore_n 2, 1) := by decide +kernel
theorem d_Mo_worth_7 : decode prog_14_method_37_code 7 = .ok (.iconst 0, 1) := by decide +kernel
theorem d_Mo_worth_8 : decode prog_14_method_37_code 8 = .ok (.istore_n 3, 1) := by decide +kernel
theorem d_Mo_worth_9 : decode prog_14_method_37_code 9 = .ok (.iload_n 2, 1) := by decide +kernel
theorem d_Mo_worth_10 : decode prog_14_method_37_code 10 = .ok (.iconst 1, 1) := by decide +kernel
theorem d_Mo_worth_11 : decode prog_14_method_37_code 11 = .ok (.if_icmp .ne 56, 3) := by decide +kernel
theorem d_Mo_worth_14 : decode prog_14_method_37_code 14 = .ok (.aload_n 0, 1) := by decide +kernel
theorem d_Mo_worth_15 : decode prog_14_method_37_code 15 = .ok (.bipush 20, 2) := by decide +kernel
theorem d_Mo_worth_17 : decode prog_14_method_37_code 17 = .ok (.invokevirtual 193, 3) := by decide +kernel
theorem d_Mo_worth_20 : decode prog_14_method_37_code 20 = .ok (.iconst 0, 1) := by decide +kernel
theorem d_Mo_worth_21 : decode prog_14_method_37_code 21 = .ok (.istore 4, 2) := by decide +kernel
theorem d_Mo_worth_23 : decode prog_14_method_37_code 23 = .ok (.iload 4, 2) := by decide +kernel
theorem d_Mo_worth_25 : decode prog_14_method_37_code 25 = .ok (.iconst 2, 1) := by decide +kernel
theorem d_Mo_worth_26 : decode prog_14_method_37_code 26 = .ok (.aload_n 0, 1) := by decide +kernel
theorem d_Mo_worth_27 : decode prog_14_method_37_code 27 = .ok (.getfield 25, 3) := by decide +kernel
theorem d_Mo_worth_30 : decode prog_14_method_37_code 30 = .ok (.iload_n 1, 1) := by decide +kernel
theorem d_Mo_worth_31 : decode prog_14_method_37_code 31 = .ok (.iaload, 1) := by decide +kernel
end
section
/-! DECODE ROWS, printed by wip/whole/gen/tables.py -/
theorem d_Mo_worth_32 : decode prog_14_method_37_code 32 = .ok (.imul, 1) := by decide +kernel
theorem d_Mo_worth_33 : decode prog_14_method_37_code 33 = .ok (.if_icmp .ge 32, 3) := by decide +kernel
theorem d_Mo_worth_36 : decode prog_14_method_37_code 36 = .ok (.iload_n 3, 1) := by decide +kernel
theorem d_Mo_worth_37 : decode prog_14_method_37_code 37 = .ok (.aload_n 0, 1) := by decide +kernel
theorem d_Mo_worth_38 : decode prog_14_method_37_code 38 = .ok (.getfield 28, 3) := by decide +kernel
theorem d_Mo_worth_41 : decode prog_14_method_37_code 41 = .ok (.bipush 40, 2) := by decide +kernel
theorem d_Mo_worth_43 : decode prog_14_method_37_code 43 = .ok (.iload_n 1, 1) := by decide +kernel
theorem d_Mo_worth_44 : decode prog_14_method_37_code 44 = .ok (.imul, 1) := by decide +kernel
theorem d_Mo_worth_45 : decode prog_14_method_37_code 45 = .ok (.iload 4, 2) := by decide +kernel
theorem d_Mo_worth_47 : decode prog_14_method_37_code 47 = .ok (.iadd, 1) := by decide +kernel
theorem d_Mo_worth_48 : decode prog_14_method_37_code 48 = .ok (.iaload, 1) := by decide +kernel
theorem d_Mo_worth_49 : decode prog_14_method_37_code 49 = .ok (.ifCond .le 7, 3) := by decide +kernel
theorem d_Mo_worth_52 : decode prog_14_method_37_code 52 = .ok (.iconst 1, 1) := by decide +kernel
theorem d_Mo_worth_53 : decode prog_14_method_37_code 53 = .ok (.goto 4, 3) := by decide +kernel
theorem d_Mo_worth_56 : decode prog_14_method_37_code 56 = .ok (.iconst 0, 1) := by decide +kernel
theorem d_Mo_worth_57 : decode prog_14_method_37_code 57 = .ok (.iadd, 1) := by decide +kernel
theorem d_Mo_worth_58 : decode prog_14_method_37_code 58 = .ok (.istore_n 3, 1) := by decide +kernel
theorem d_Mo_worth_59 : decode prog_14_method_37_code 59 = .ok (.iinc 4 1, 3) := by decide +kernel
theorem d_Mo_worth_62 : decode prog_14_method_37_code 62 = .ok (.goto (-39), 3) := by decide +kernel
theorem d_Mo_worth_65 : decode prog_14_method_37_code 65 = .ok (.iload_n 3, 1) := by decide +kernel
theorem d_Mo_worth_66 : decode prog_14_method_37_code 66 = .ok (.ireturn, 1) := by decide +kernel
theorem d_Mo_worth_67 : decode prog_14_method_37_code 67 = .ok (.iload_n 2, 1) := by decide +kernel
theorem d_Mo_worth_68 : decode prog_14_method_37_code 68 = .ok (.iconst 5, 1) := by decide +kernel
theorem d_Mo_worth_69 : decode prog_14_method_37_code 69 = .ok (.if_icmp .ge 88, 3) := by decide +kernel
theorem d_Mo_worth_72 : decode prog_14_method_37_code 72 = .ok (.iload_n 2, 1) := by decide +kernel
theorem d_Mo_worth_73 : decode prog_14_method_37_code 73 = .ok (.iconst 3, 1) := by decide +kernel
theorem d_Mo_worth_74 : decode prog_14_method_37_code 74 = .ok (.if_icmp .ne 9, 3) := by decide +kernel
theorem d_Mo_worth_77 : decode prog_14_method_37_code 77 = .ok (.aload_n 0, 1) := by decide +kernel
theorem d_Mo_worth_78 : decode prog_14_method_37_code 78 = .ok (.bipush 22, 2) := by decide +kernel
theorem d_Mo_worth_80 : decode prog_14_method_37_code 80 = .ok (.invokevirtual 193, 3) := by decide +kernel
theorem d_Mo_worth_83 : decode prog_14_method_37_code 83 = .ok (.aload_n 0, 1) := by decide +kernel
theorem d_Mo_worth_84 : decode prog_14_method_37_code 84 = .ok (.bipush 21, 2) := by decide +kernel
theorem d_Mo_worth_86 : decode prog_14_method_37_code 86 = .ok (.invokevirtual 193, 3) := by decide +kernel
theorem d_Mo_worth_89 : decode prog_14_method_37_code 89 = .ok (.iconst 0, 1) := by decide +kernel
theorem d_Mo_worth_90 : decode prog_14_method_37_code 90 = .ok (.istore 4, 2) := by decide +kernel
theorem d_Mo_worth_92 : decode prog_14_method_37_code 92 = .ok (.iload 4, 2) := by decide +kernel
theorem d_Mo_worth_94 : decode prog_14_method_37_code 94 = .ok (.iconst 1, 1) := by decide +kernel
theorem d_Mo_worth_95 : decode prog_14_method_37_code 95 = .ok (.iadd, 1) := by decide +kernel
theorem d_Mo_worth_96 : decode prog_14_method_37_code 96 = .ok (.iconst 2, 1) := by decide +kernel
theorem d_Mo_worth_97 : decode prog_14_method_37_code 97 = .ok (.aload_n 0, 1) := by decide +kernel
theorem d_Mo_worth_98 : decode prog_14_method_37_code 98 = .ok (.getfield 25, 3) := by decide +kernel
theorem d_Mo_worth_101 : decode prog_14_method_37_code 101 = .ok (.iload_n 1, 1) := by decide +kernel
theorem d_Mo_worth_102 : decode prog_14_method_37_code 102 = .ok (.iaload, 1) := by decide +kernel
theorem d_Mo_worth_103 : decode prog_14_method_37_code 103 = .ok (.imul, 1) := by decide +kernel
theorem d_Mo_worth_104 : decode prog_14_method_37_code 104 = .ok (.if_icmp .ge 36, 3) := by decide +kernel
theorem d_Mo_worth_107 : decode prog_14_method_37_code 107 = .ok (.iload_n 3, 1) := by decide +kernel
theorem d_Mo_worth_108 : decode prog_14_method_37_code 108 = .ok (.aload_n 0, 1) := by decide +kernel
theorem d_Mo_worth_109 : decode prog_14_method_37_code 109 = .ok (.getfield 34, 3) := by decide +kernel
theorem d_Mo_worth_112 : decode prog_14_method_37_code 112 = .ok (.bipush 40, 2) := by decide +kernel
theorem d_Mo_worth_114 : decode prog_14_method_37_code 114 = .ok (.iload_n 1, 1) := by decide +kernel
theorem d_Mo_worth_115 : decode prog_14_method_37_code 115 = .ok (.imul, 1) := by decide +kernel
theorem d_Mo_worth_116 : decode prog_14_method_37_code 116 = .ok (.iload 4, 2) := by decide +kernel
theorem d_Mo_worth_118 : decode prog_14_method_37_code 118 = .ok (.iadd, 1) := by decide +kernel
theorem d_Mo_worth_119 : decode prog_14_method_37_code 119 = .ok (.iaload, 1) := by decide +kernel
theorem d_Mo_worth_120 : decode prog_14_method_37_code 120 = .ok (.iload 4, 2) := by decide +kernel
theorem d_Mo_worth_122 : decode prog_14_method_37_code 122 = .ok (.iconst 1, 1) := by decide +kernel
theorem d_Mo_worth_123 : decode prog_14_method_37_code 123 = .ok (.iadd, 1) := by decide +kernel
theorem d_Mo_worth_124 : decode prog_14_method_37_code 124 = .ok (.if_icmp .ne 7, 3) := by decide +kernel
theorem d_Mo_worth_127 : decode prog_14_method_37_code 127 = .ok (.iconst 1, 1) := by decide +kernel
theorem d_Mo_worth_128 : decode prog_14_method_37_code 128 = .ok (.goto 4, 3) := by decide +kernel
theorem d_Mo_worth_131 : decode prog_14_method_37_code 131 = .ok (.iconst 0, 1) := by decide +kernel
theorem d_Mo_worth_132 : decode prog_14_method_37_code 132 = .ok (.iadd, 1) := by decide +kernel
theorem d_Mo_worth_133 : decode prog_14_method_37_code 133 = .ok (.istore_n 3, 1) := by decide +kernel
theorem d_Mo_worth_134 : decode prog_14_method_37_code 134 = .ok (.iinc 4 1, 3) := by decide +kernel
theorem d_Mo_worth_137 : decode prog_14_method_37_code 137 = .ok (.goto (-45), 3) := by decide +kernel
theorem d_Mo_worth_140 : decode prog_14_method_37_code 140 = .ok (.iload_n 2, 1) := by decide +kernel
theorem d_Mo_worth_141 : decode prog_14_method_37_code 141 = .ok (.iconst 3, 1) := by decide +kernel
theorem d_Mo_worth_142 : decode prog_14_method_37_code 142 = .ok (.if_icmp .ne 13, 3) := by decide +kernel
theorem d_Mo_worth_145 : decode prog_14_method_37_code 145 = .ok (.iload_n 3, 1) := by decide +kernel
theorem d_Mo_worth_146 : decode prog_14_method_37_code 146 = .ok (.aload_n 0, 1) := by decide +kernel
theorem d_Mo_worth_147 : decode prog_14_method_37_code 147 = .ok (.iload_n 1, 1) := by decide +kernel
theorem d_Mo_worth_148 : decode prog_14_method_37_code 148 = .ok (.invokevirtual 197, 3) := by decide +kernel
theorem d_Mo_worth_151 : decode prog_14_method_37_code 151 = .ok (.iadd, 1) := by decide +kernel
theorem d_Mo_worth_152 : decode prog_14_method_37_code 152 = .ok (.goto 4, 3) := by decide +kernel
theorem d_Mo_worth_155 : decode prog_14_method_37_code 155 = .ok (.iload_n 3, 1) := by decide +kernel
theorem d_Mo_worth_156 : decode prog_14_method_37_code 156 = .ok (.ireturn, 1) := by decide +kernel
theorem d_Mo_worth_157 : decode prog_14_method_37_code 157 = .ok (.iload_n 2, 1) := by decide +kernel
theorem d_Mo_worth_158 : decode prog_14_method_37_code 158 = .ok (.bipush 7, 2) := by decide +kernel
theorem d_Mo_worth_160 : decode prog_14_method_37_code 160 = .ok (.if_icmp .ge 45, 3) := by decide +kernel
theorem d_Mo_worth_163 : decode prog_14_method_37_code 163 = .ok (.iload_n 2, 1) := by decide +kernel
theorem d_Mo_worth_164 : decode prog_14_method_37_code 164 = .ok (.bipush 6, 2) := by decide +kernel
theorem d_Mo_worth_166 : decode prog_14_method_37_code 166 = .ok (.if_icmp .ne 9, 3) := by decide +kernel
theorem d_Mo_worth_169 : decode prog_14_method_37_code 169 = .ok (.aload_n 0, 1) := by decide +kernel
theorem d_Mo_worth_170 : decode prog_14_method_37_code 170 = .ok (.bipush 24, 2) := by decide +kernel
theorem d_Mo_worth_172 : decode prog_14_method_37_code 172 = .ok (.invokevirtual 193, 3) := by decide +kernel
theorem d_Mo_worth_175 : decode prog_14_method_37_code 175 = .ok (.aload_n 0, 1) := by decide +kernel
theorem d_Mo_worth_176 : decode prog_14_method_37_code 176 = .ok (.bipush 23, 2) := by decide +kernel
theorem d_Mo_worth_178 : decode prog_14_method_37_code 178 = .ok (.invokevirtual 193, 3) := by decide +kernel
theorem d_Mo_worth_181 : decode prog_14_method_37_code 181 = .ok (.aload_n 0, 1) := by decide +kernel
theorem d_Mo_worth_182 : decode prog_14_method_37_code 182 = .ok (.iload_n 1, 1) := by decide +kernel
theorem d_Mo_worth_183 : decode prog_14_method_37_code 183 = .ok (.invokevirtual 141, 3) := by decide +kernel
theorem d_Mo_worth_186 : decode prog_14_method_37_code 186 = .ok (.istore_n 3, 1) := by decide +kernel
theorem d_Mo_worth_187 : decode prog_14_method_37_code 187 = .ok (.iload_n 2, 1) := by decide +kernel
theorem d_Mo_worth_188 : decode prog_14_method_37_code 188 = .ok (.bipush 6, 2) := by decide +kernel
theorem d_Mo_worth_190 : decode prog_14_method_37_code 190 = .ok (.if_icmp .ne 13, 3) := by decide +kernel
theorem d_Mo_worth_193 : decode prog_14_method_37_code 193 = .ok (.iload_n 3, 1) := by decide +kernel
theorem d_Mo_worth_194 : decode prog_14_method_37_code 194 = .ok (.aload_n 0, 1) := by decide +kernel
theorem d_Mo_worth_195 : decode prog_14_method_37_code 195 = .ok (.iload_n 1, 1) := by decide +kernel
theorem d_Mo_worth_196 : decode prog_14_method_37_code 196 = .ok (.invokevirtual 197, 3) := by decide +kernel
theorem d_Mo_worth_199 : decode prog_14_method_37_code 199 = .ok (.imul, 1) := by decide +kernel
theorem d_Mo_worth_200 : decode prog_14_method_37_code 200 = .ok (.goto 4, 3) := by decide +kernel
theorem d_Mo_worth_203 : decode prog_14_method_37_code 203 = .ok (.iload_n 3, 1) := by decide +kernel
theorem d_Mo_worth_204 : decode prog_14_method_37_code 204 = .ok (.ireturn, 1) := by decide +kernel
theorem d_Mo_worth_205 : decode prog_14_method_37_code 205 = .ok (.iload_n 2, 1) := by decide +kernel
theorem d_Mo_worth_206 : decode prog_14_method_37_code 206 = .ok (.bipush 8, 2) := by decide +kernel
theorem d_Mo_worth_208 : decode prog_14_method_37_code 208 = .ok (.if_icmp .ne 9, 3) := by decide +kernel
theorem d_Mo_worth_211 : decode prog_14_method_37_code 211 = .ok (.aload_n 0, 1) := by decide +kernel
theorem d_Mo_worth_212 : decode prog_14_method_37_code 212 = .ok (.bipush 26, 2) := by decide +kernel
theorem d_Mo_worth_214 : decode prog_14_method_37_code 214 = .ok (.invokevirtual 193, 3) := by decide +kernel
theorem d_Mo_worth_217 : decode prog_14_method_37_code 217 = .ok (.aload_n 0, 1) := by decide +kernel
theorem d_Mo_worth_218 : decode prog_14_method_37_code 218 = .ok (.bipush 25, 2) := by decide +kernel
theorem d_Mo_worth_220 : decode prog_14_method_37_code 220 = .ok (.invokevirtual 193, 3) := by decide +kernel
theorem d_Mo_worth_223 : decode prog_14_method_37_code 223 = .ok (.aload_n 0, 1) := by decide +kernel
theorem d_Mo_worth_224 : decode prog_14_method_37_code 224 = .ok (.getfield 28, 3) := by decide +kernel
theorem d_Mo_worth_227 : decode prog_14_method_37_code 227 = .ok (.bipush 40, 2) := by decide +kernel
theorem d_Mo_worth_229 : decode prog_14_method_37_code 229 = .ok (.iload_n 1, 1) := by decide +kernel
theorem d_Mo_worth_230 : decode prog_14_method_37_code 230 = .ok (.imul, 1) := by decide +kernel
theorem d_Mo_worth_231 : decode prog_14_method_37_code 231 = .ok (.iload_n 3, 1) := by decide +kernel
theorem d_Mo_worth_232 : decode prog_14_method_37_code 232 = .ok (.iadd, 1) := by decide +kernel
theorem d_Mo_worth_233 : decode prog_14_method_37_code 233 = .ok (.iaload, 1) := by decide +kernel
theorem d_Mo_worth_234 : decode prog_14_method_37_code 234 = .ok (.ifCond .eq 9, 3) := by decide +kernel
theorem d_Mo_worth_237 : decode prog_14_method_37_code 237 = .ok (.iinc 3 1, 3) := by decide +kernel
theorem d_Mo_worth_240 : decode prog_14_method_37_code 240 = .ok (.goto (-17), 3) := by decide +kernel
theorem d_Mo_worth_243 : decode prog_14_method_37_code 243 = .ok (.iload_n 2, 1) := by decide +kernel
theorem d_Mo_worth_244 : decode prog_14_method_37_code 244 = .ok (.bipush 8, 2) := by decide +kernel
theorem d_Mo_worth_246 : decode prog_14_method_37_code 246 = .ok (.if_icmp .ne 10, 3) := by decide +kernel
theorem d_Mo_worth_249 : decode prog_14_method_37_code 249 = .ok (.iload_n 3, 1) := by decide +kernel
theorem d_Mo_worth_250 : decode prog_14_method_37_code 250 = .ok (.bipush 100, 2) := by decide +kernel
theorem d_Mo_worth_252 : decode prog_14_method_37_code 252 = .ok (.iadd, 1) := by decide +kernel
theorem d_Mo_worth_253 : decode prog_14_method_37_code 253 = .ok (.goto 4, 3) := by decide +kernel
theorem d_Mo_worth_256 : decode prog_14_method_37_code 256 = .ok (.iload_n 3, 1) := by decide +kernel
theorem d_Mo_worth_257 : decode prog_14_method_37_code 257 = .ok (.ireturn, 1) := by decide +kernel
theorem d_Mo_mark_0 : decode prog_14_method_38_code 0 = .ok (.aload_n 0, 1) := by decide +kernel
theorem d_Mo_mark_1 : decode prog_14_method_38_code 1 = .ok (.getfield 22, 3) := by decide +kernel
theorem d_Mo_mark_4 : decode prog_14_method_38_code 4 = .ok (.iload_n 1, 1) := by decide +kernel
theorem d_Mo_mark_5 : decode prog_14_method_38_code 5 = .ok (.iaload, 1) := by decide +kernel
theorem d_Mo_mark_6 : decode prog_14_method_38_code 6 = .ok (.istore_n 2, 1) := by decide +kernel
theorem d_Mo_mark_7 : decode prog_14_method_38_code 7 = .ok (.iload_n 2, 1) := by decide +kernel
theorem d_Mo_mark_8 : decode prog_14_method_38_code 8 = .ok (.iconst 2, 1) := by decide +kernel
theorem d_Mo_mark_9 : decode prog_14_method_38_code 9 = .ok (.invokestatic 161, 3) := by decide +kernel
theorem d_Mo_mark_12 : decode prog_14_method_38_code 12 = .ok (.istore_n 3, 1) := by decide +kernel
theorem d_Mo_mark_13 : decode prog_14_method_38_code 13 = .ok (.iload_n 2, 1) := by decide +kernel
theorem d_Mo_mark_14 : decode prog_14_method_38_code 14 = .ok (.iconst 4, 1) := by decide +kernel
theorem d_Mo_mark_15 : decode prog_14_method_38_code 15 = .ok (.if_icmp .ne 9, 3) := by decide +kernel
theorem d_Mo_mark_18 : decode prog_14_method_38_code 18 = .ok (.aload_n 0, 1) := by decide +kernel
theorem d_Mo_mark_19 : decode prog_14_method_38_code 19 = .ok (.bipush 32, 2) := by decide +kernel
theorem d_Mo_mark_21 : decode prog_14_method_38_code 21 = .ok (.invokevirtual 193, 3) := by decide +kernel
theorem d_Mo_mark_24 : decode prog_14_method_38_code 24 = .ok (.iload_n 3, 1) := by decide +kernel
theorem d_Mo_mark_25 : decode prog_14_method_38_code 25 = .ok (.ifCond .eq 9, 3) := by decide +kernel
theorem d_Mo_mark_28 : decode prog_14_method_38_code 28 = .ok (.aload_n 0, 1) := by decide +kernel
theorem d_Mo_mark_29 : decode prog_14_method_38_code 29 = .ok (.bipush 31, 2) := by decide +kernel
theorem d_Mo_mark_31 : decode prog_14_method_38_code 31 = .ok (.invokevirtual 193, 3) := by decide +kernel
theorem d_Mo_mark_34 : decode prog_14_method_38_code 34 = .ok (.iload_n 2, 1) := by decide +kernel
theorem d_Mo_mark_35 : decode prog_14_method_38_code 35 = .ok (.bipush 8, 2) := by decide +kernel
theorem d_Mo_mark_37 : decode prog_14_method_38_code 37 = .ok (.if_icmp .ne 9, 3) := by decide +kernel
theorem d_Mo_mark_40 : decode prog_14_method_38_code 40 = .ok (.aload_n 0, 1) := by decide +kernel
theorem d_Mo_mark_41 : decode prog_14_method_38_code 41 = .ok (.bipush 33, 2) := by decide +kernel
theorem d_Mo_mark_43 : decode prog_14_method_38_code 43 = .ok (.invokevirtual 193, 3) := by decide +kernel
theorem d_Mo_mark_46 : decode prog_14_method_38_code 46 = .ok (.aload_n 0, 1) := by decide +kernel
theorem d_Mo_mark_47 : decode prog_14_method_38_code 47 = .ok (.bipush 30, 2) := by decide +kernel
theorem d_Mo_mark_49 : decode prog_14_method_38_code 49 = .ok (.invokevirtual 193, 3) := by decide +kernel
theorem d_Mo_mark_52 : decode prog_14_method_38_code 52 = .ok (.aload_n 0, 1) := by decide +kernel
theorem d_Mo_mark_53 : decode prog_14_method_38_code 53 = .ok (.iload_n 1, 1) := by decide +kernel
theorem d_Mo_mark_54 : decode prog_14_method_38_code 54 = .ok (.invokevirtual 197, 3) := by decide +kernel
theorem d_Mo_mark_57 : decode prog_14_method_38_code 57 = .ok (.iconst 3, 1) := by decide +kernel
theorem d_Mo_mark_58 : decode prog_14_method_38_code 58 = .ok (.iadd, 1) := by decide +kernel
theorem d_Mo_mark_59 : decode prog_14_method_38_code 59 = .ok (.istore 4, 2) := by decide +kernel
theorem d_Mo_mark_61 : decode prog_14_method_38_code 61 = .ok (.iload_n 3, 1) := by decide +kernel
theorem d_Mo_mark_62 : decode prog_14_method_38_code 62 = .ok (.ifCond .eq 10, 3) := by decide +kernel
theorem d_Mo_mark_65 : decode prog_14_method_38_code 65 = .ok (.iconst 2, 1) := by decide +kernel
theorem d_Mo_mark_66 : decode prog_14_method_38_code 66 = .ok (.iload 4, 2) := by decide +kernel
theorem d_Mo_mark_68 : decode prog_14_method_38_code 68 = .ok (.imul, 1) := by decide +kernel
theorem d_Mo_mark_69 : decode prog_14_method_38_code 69 = .ok (.goto 18, 3) := by decide +kernel
theorem d_Mo_mark_72 : decode prog_14_method_38_code 72 = .ok (.iload_n 2, 1) := by decide +kernel
theorem d_Mo_mark_73 : decode prog_14_method_38_code 73 = .ok (.bipush 8, 2) := by decide +kernel
theorem d_Mo_mark_75 : decode prog_14_method_38_code 75 = .ok (.if_icmp .ne 10, 3) := by decide +kernel
theorem d_Mo_mark_78 : decode prog_14_method_38_code 78 = .ok (.iload 4, 2) := by decide +kernel
theorem d_Mo_mark_80 : decode prog_14_method_38_code 80 = .ok (.iconst 1, 1) := by decide +kernel
theorem d_Mo_mark_81 : decode prog_14_method_38_code 81 = .ok (.isub, 1) := by decide +kernel
theorem d_Mo_mark_82 : decode prog_14_method_38_code 82 = .ok (.goto 5, 3) := by decide +kernel
theorem d_Mo_mark_85 : decode prog_14_method_38_code 85 = .ok (.iload 4, 2) := by decide +kernel
theorem d_Mo_mark_87 : decode prog_14_method_38_code 87 = .ok (.istore 4, 2) := by decide +kernel
theorem d_Mo_mark_89 : decode prog_14_method_38_code 89 = .ok (.iload_n 2, 1) := by decide +kernel
theorem d_Mo_mark_90 : decode prog_14_method_38_code 90 = .ok (.iconst 4, 1) := by decide +kernel
theorem d_Mo_mark_91 : decode prog_14_method_38_code 91 = .ok (.if_icmp .ne 14, 3) := by decide +kernel
theorem d_Mo_mark_94 : decode prog_14_method_38_code 94 = .ok (.iload 4, 2) := by decide +kernel
theorem d_Mo_mark_96 : decode prog_14_method_38_code 96 = .ok (.aload_n 0, 1) := by decide +kernel
theorem d_Mo_mark_97 : decode prog_14_method_38_code 97 = .ok (.iload_n 1, 1) := by decide +kernel
theorem d_Mo_mark_98 : decode prog_14_method_38_code 98 = .ok (.invokevirtual 200, 3) := by decide +kernel
theorem d_Mo_mark_101 : decode prog_14_method_38_code 101 = .ok (.iadd, 1) := by decide +kernel
theorem d_Mo_mark_102 : decode prog_14_method_38_code 102 = .ok (.goto 5, 3) := by decide +kernel
theorem d_Mo_mark_105 : decode prog_14_method_38_code 105 = .ok (.iload 4, 2) := by decide +kernel
theorem d_Mo_mark_107 : decode prog_14_method_38_code 107 = .ok (.ireturn, 1) := by decide +kernel
theorem d_Mo_trace_0 : decode prog_14_method_40_code 0 = .ok (.iload_n 1, 1) := by decide +kernel
theorem d_Mo_trace_1 : decode prog_14_method_40_code 1 = .ok (.i2l, 1) := by decide +kernel
theorem d_Mo_trace_2 : decode prog_14_method_40_code 2 = .ok (.lconst 0, 1) := by decide +kernel
theorem d_Mo_trace_3 : decode prog_14_method_40_code 3 = .ok (.aload_n 0, 1) := by decide +kernel
theorem d_Mo_trace_4 : decode prog_14_method_40_code 4 = .ok (.getfield 190, 3) := by decide +kernel
theorem d_Mo_trace_7 : decode prog_14_method_40_code 7 = .ok (.iconst 1, 1) := by decide +kernel
theorem d_Mo_trace_8 : decode prog_14_method_40_code 8 = .ok (.isub, 1) := by decide +kernel
theorem d_Mo_trace_9 : decode prog_14_method_40_code 9 = .ok (.i2l, 1) := by decide +kernel
theorem d_Mo_trace_10 : decode prog_14_method_40_code 10 = .ok (.invokestatic 102, 3) := by decide +kernel
theorem d_Mo_trace_13 : decode prog_14_method_40_code 13 = .ok (.ifCond .eq 12, 3) := by decide +kernel
theorem d_Mo_trace_16 : decode prog_14_method_40_code 16 = .ok (.aload_n 0, 1) := by decide +kernel
theorem d_Mo_trace_17 : decode prog_14_method_40_code 17 = .ok (.getfield 40, 3) := by decide +kernel
theorem d_Mo_trace_20 : decode prog_14_method_40_code 20 = .ok (.iload_n 1, 1) := by decide +kernel
theorem d_Mo_trace_21 : decode prog_14_method_40_code 21 = .ok (.iaload, 1) := by decide +kernel
theorem d_Mo_trace_22 : decode prog_14_method_40_code 22 = .ok (.goto 5, 3) := by decide +kernel
theorem d_Mo_trace_25 : decode prog_14_method_40_code 25 = .ok (.ldc 136, 2) := by decide +kernel
theorem d_Mo_trace_27 : decode prog_14_method_40_code 27 = .ok (.ireturn, 1) := by decide +kernel
theorem d_Mo_sign_0 : decode prog_14_method_41_code 0 = .ok (.iload_n 1, 1) := by decide +kernel
theorem d_Mo_sign_1 : decode prog_14_method_41_code 1 = .ok (.invokestatic 152, 3) := by decide +kernel
theorem d_Mo_sign_4 : decode prog_14_method_41_code 4 = .ok (.ifCond .ne 6, 3) := by decide +kernel
theorem d_Mo_sign_7 : decode prog_14_method_41_code 7 = .ok (.ldc 112, 2) := by decide +kernel
theorem d_Mo_sign_9 : decode prog_14_method_41_code 9 = .ok (.ireturn, 1) := by decide +kernel
theorem d_Mo_sign_10 : decode prog_14_method_41_code 10 = .ok (.aload_n 0, 1) := by decide +kernel
theorem d_Mo_sign_11 : decode prog_14_method_41_code 11 = .ok (.iload_n 1, 1) := by decide +kernel
theorem d_Mo_sign_12 : decode prog_14_method_41_code 12 = .ok (.iconst 1, 1) := by decide +kernel
theorem d_Mo_sign_13 : decode prog_14_method_41_code 13 = .ok (.invokevirtual 165, 3) := by decide +kernel
theorem d_Mo_sign_16 : decode prog_14_method_41_code 16 = .ok (.istore_n 3, 1) := by decide +kernel
theorem d_Mo_sign_17 : decode prog_14_method_41_code 17 = .ok (.iload_n 3, 1) := by decide +kernel
theorem d_Mo_sign_18 : decode prog_14_method_41_code 18 = .ok (.ifCond .eq 5, 3) := by decide +kernel
theorem d_Mo_sign_21 : decode prog_14_method_41_code 21 = .ok (.iload_n 3, 1) := by decide +kernel
theorem d_Mo_sign_22 : decode prog_14_method_41_code 22 = .ok (.ireturn, 1) := by decide +kernel
theorem d_Mo_sign_23 : decode prog_14_method_41_code 23 = .ok (.iload_n 2, 1) := by decide +kernel
theorem d_Mo_sign_24 : decode prog_14_method_41_code 24 = .ok (.i2l, 1) := by decide +kernel
theorem d_Mo_sign_25 : decode prog_14_method_41_code 25 = .ok (.lconst 0, 1) := by decide +kernel
theorem d_Mo_sign_26 : decode prog_14_method_41_code 26 = .ok (.iconst 2, 1) := by decide +kernel
theorem d_Mo_sign_27 : decode prog_14_method_41_code 27 = .ok (.aload_n 0, 1) := by decide +kernel
theorem d_Mo_sign_28 : decode prog_14_method_41_code 28 = .ok (.getfield 25, 3) := by decide +kernel
theorem d_Mo_sign_31 : decode prog_14_method_41_code 31 = .ok (.iload_n 1, 1) := by decide +kernel
theorem d_Mo_sign_32 : decode prog_14_method_41_code 32 = .ok (.iaload, 1) := by decide +kernel
theorem d_Mo_sign_33 : decode prog_14_method_41_code 33 = .ok (.imul, 1) := by decide +kernel
theorem d_Mo_sign_34 : decode prog_14_method_41_code 34 = .ok (.iconst 1, 1) := by decide +kernel
theorem d_Mo_sign_35 : decode prog_14_method_41_code 35 = .ok (.isub, 1) := by decide +kernel
theorem d_Mo_sign_36 : decode prog_14_method_41_code 36 = .ok (.i2l, 1) := by decide +kernel
theorem d_Mo_sign_37 : decode prog_14_method_41_code 37 = .ok (.invokestatic 102, 3) := by decide +kernel
theorem d_Mo_sign_40 : decode prog_14_method_41_code 40 = .ok (.ifCond .eq 21, 3) := by decide +kernel
theorem d_Mo_sign_43 : decode prog_14_method_41_code 43 = .ok (.aload_n 0, 1) := by decide +kernel
theorem d_Mo_sign_44 : decode prog_14_method_41_code 44 = .ok (.aload_n 0, 1) := by decide +kernel
theorem d_Mo_sign_45 : decode prog_14_method_41_code 45 = .ok (.getfield 28, 3) := by decide +kernel
theorem d_Mo_sign_48 : decode prog_14_method_41_code 48 = .ok (.bipush 40, 2) := by decide +kernel
theorem d_Mo_sign_50 : decode prog_14_method_41_code 50 = .ok (.iload_n 1, 1) := by decide +kernel
theorem d_Mo_sign_51 : decode prog_14_method_41_code 51 = .ok (.imul, 1) := by decide +kernel
theorem d_Mo_sign_52 : decode prog_14_method_41_code 52 = .ok (.iload_n 2, 1) := by decide +kernel
theorem d_Mo_sign_53 : decode prog_14_method_41_code 53 = .ok (.iadd, 1) := by decide +kernel
theorem d_Mo_sign_54 : decode prog_14_method_41_code 54 = .ok (.iaload, 1) := by decide +kernel
theorem d_Mo_sign_55 : decode prog_14_method_41_code 55 = .ok (.invokevirtual 117, 3) := by decide +kernel
theorem d_Mo_sign_58 : decode prog_14_method_41_code 58 = .ok (.goto 5, 3) := by decide +kernel
theorem d_Mo_sign_61 : decode prog_14_method_41_code 61 = .ok (.ldc 112, 2) := by decide +kernel
theorem d_Mo_sign_63 : decode prog_14_method_41_code 63 = .ok (.ireturn, 1) := by decide +kernel
theorem d_Mo_joined_0 : decode prog_14_method_42_code 0 = .ok (.iload_n 1, 1) := by decide +kernel
theorem d_Mo_joined_1 : decode prog_14_method_42_code 1 = .ok (.invokestatic 152, 3) := by decide +kernel
theorem d_Mo_joined_4 : decode prog_14_method_42_code 4 = .ok (.ifCond .ne 6, 3) := by decide +kernel
theorem d_Mo_joined_7 : decode prog_14_method_42_code 7 = .ok (.ldc 112, 2) := by decide +kernel
theorem d_Mo_joined_9 : decode prog_14_method_42_code 9 = .ok (.ireturn, 1) := by decide +kernel
theorem d_Mo_joined_10 : decode prog_14_method_42_code 10 = .ok (.aload_n 0, 1) := by decide +kernel
theorem d_Mo_joined_11 : decode prog_14_method_42_code 11 = .ok (.iload_n 1, 1) := by decide +kernel
theorem d_Mo_joined_12 : decode prog_14_method_42_code 12 = .ok (.iconst 2, 1) := by decide +kernel
theorem d_Mo_joined_13 : decode prog_14_method_42_code 13 = .ok (.invokevirtual 165, 3) := by decide +kernel
theorem d_Mo_joined_16 : decode prog_14_method_42_code 16 = .ok (.istore_n 3, 1) := by decide +kernel
theorem d_Mo_joined_17 : decode prog_14_method_42_code 17 = .ok (.iload_n 3, 1) := by decide +kernel
theorem d_Mo_joined_18 : decode prog_14_method_42_code 18 = .ok (.ifCond .eq 5, 3) := by decide +kernel
theorem d_Mo_joined_21 : decode prog_14_method_42_code 21 = .ok (.iload_n 3, 1) := by decide +kernel
theorem d_Mo_joined_22 : decode prog_14_method_42_code 22 = .ok (.ireturn, 1) := by decide +kernel
theorem d_Mo_joined_23 : decode prog_14_method_42_code 23 = .ok (.iload_n 2, 1) := by decide +kernel
theorem d_Mo_joined_24 : decode prog_14_method_42_code 24 = .ok (.i2l, 1) := by decide +kernel
theorem d_Mo_joined_25 : decode prog_14_method_42_code 25 = .ok (.lconst 0, 1) := by decide +kernel
theorem d_Mo_joined_26 : decode prog_14_method_42_code 26 = .ok (.iconst 2, 1) := by decide +kernel
theorem d_Mo_joined_27 : decode prog_14_method_42_code 27 = .ok (.aload_n 0, 1) := by decide +kernel
theorem d_Mo_joined_28 : decode prog_14_method_42_code 28 = .ok (.getfield 25, 3) := by decide +kernel
theorem d_Mo_joined_31 : decode prog_14_method_42_code 31 = .ok (.iload_n 1, 1) := by decide +kernel
theorem d_Mo_joined_32 : decode prog_14_method_42_code 32 = .ok (.iaload, 1) := by decide +kernel
theorem d_Mo_joined_33 : decode prog_14_method_42_code 33 = .ok (.imul, 1) := by decide +kernel
theorem d_Mo_joined_34 : decode prog_14_method_42_code 34 = .ok (.iconst 1, 1) := by decide +kernel
theorem d_Mo_joined_35 : decode prog_14_method_42_code 35 = .ok (.isub, 1) := by decide +kernel
theorem d_Mo_joined_36 : decode prog_14_method_42_code 36 = .ok (.i2l, 1) := by decide +kernel
theorem d_Mo_joined_37 : decode prog_14_method_42_code 37 = .ok (.invokestatic 102, 3) := by decide +kernel
theorem d_Mo_joined_40 : decode prog_14_method_42_code 40 = .ok (.ifCond .eq 21, 3) := by decide +kernel
theorem d_Mo_joined_43 : decode prog_14_method_42_code 43 = .ok (.aload_n 0, 1) := by decide +kernel
theorem d_Mo_joined_44 : decode prog_14_method_42_code 44 = .ok (.aload_n 0, 1) := by decide +kernel
theorem d_Mo_joined_45 : decode prog_14_method_42_code 45 = .ok (.getfield 34, 3) := by decide +kernel
theorem d_Mo_joined_48 : decode prog_14_method_42_code 48 = .ok (.bipush 40, 2) := by decide +kernel
theorem d_Mo_joined_50 : decode prog_14_method_42_code 50 = .ok (.iload_n 1, 1) := by decide +kernel
theorem d_Mo_joined_51 : decode prog_14_method_42_code 51 = .ok (.imul, 1) := by decide +kernel
theorem d_Mo_joined_52 : decode prog_14_method_42_code 52 = .ok (.iload_n 2, 1) := by decide +kernel
theorem d_Mo_joined_53 : decode prog_14_method_42_code 53 = .ok (.iadd, 1) := by decide +kernel
theorem d_Mo_joined_54 : decode prog_14_method_42_code 54 = .ok (.iaload, 1) := by decide +kernel
theorem d_Mo_joined_55 : decode prog_14_method_42_code 55 = .ok (.invokevirtual 117, 3) := by decide +kernel
theorem d_Mo_joined_58 : decode prog_14_method_42_code 58 = .ok (.goto 5, 3) := by decide +kernel
theorem d_Mo_joined_61 : decode prog_14_method_42_code 61 = .ok (.ldc 112, 2) := by decide +kernel
theorem d_Mo_joined_63 : decode prog_14_method_42_code 63 = .ok (.ireturn, 1) := by decide +kernel
theorem d_Mo_rank_0 : decode prog_14_method_43_code 0 = .ok (.iload_n 1, 1) := by decide +kernel
theorem d_Mo_rank_1 : decode prog_14_method_43_code 1 = .ok (.invokestatic 152, 3) := by decide +kernel
theorem d_Mo_rank_4 : decode prog_14_method_43_code 4 = .ok (.ifCond .ne 6, 3) := by decide +kernel
theorem d_Mo_rank_7 : decode prog_14_method_43_code 7 = .ok (.ldc 112, 2) := by decide +kernel
theorem d_Mo_rank_9 : decode prog_14_method_43_code 9 = .ok (.ireturn, 1) := by decide +kernel
theorem d_Mo_rank_10 : decode prog_14_method_43_code 10 = .ok (.aload_n 0, 1) := by decide +kernel
theorem d_Mo_rank_11 : decode prog_14_method_43_code 11 = .ok (.iload_n 1, 1) := by decide +kernel
theorem d_Mo_rank_12 : decode prog_14_method_43_code 12 = .ok (.iconst 2, 1) := by decide +kernel
theorem d_Mo_rank_13 : decode prog_14_method_43_code 13 = .ok (.invokevirtual 165, 3) := by decide +kernel
theorem d_Mo_rank_16 : decode prog_14_method_43_code 16 = .ok (.istore_n 2, 1) := by decide +kernel
theorem d_Mo_rank_17 : decode prog_14_method_43_code 17 = .ok (.iload_n 2, 1) := by decide +kernel
theorem d_Mo_rank_18 : decode prog_14_method_43_code 18 = .ok (.ifCond .eq 5, 3) := by decide +kernel
theorem d_Mo_rank_21 : decode prog_14_method_43_code 21 = .ok (.iload_n 2, 1) := by decide +kernel
theorem d_Mo_rank_22 : decode prog_14_method_43_code 22 = .ok (.ireturn, 1) := by decide +kernel
theorem d_Mo_rank_23 : decode prog_14_method_43_code 23 = .ok (.aload_n 0, 1) := by decide +kernel
theorem d_Mo_rank_24 : decode prog_14_method_43_code 24 = .ok (.getfield 25, 3) := by decide +kernel
theorem d_Mo_rank_27 : decode prog_14_method_43_code 27 = .ok (.iload_n 1, 1) := by decide +kernel
theorem d_Mo_rank_28 : decode prog_14_method_43_code 28 = .ok (.iaload, 1) := by decide +kernel
theorem d_Mo_rank_29 : decode prog_14_method_43_code 29 = .ok (.bipush 12, 2) := by decide +kernel
theorem d_Mo_rank_31 : decode prog_14_method_43_code 31 = .ok (.if_icmp .le 8, 3) := by decide +kernel
theorem d_Mo_rank_34 : decode prog_14_method_43_code 34 = .ok (.ldc 206, 2) := by decide +kernel
theorem d_Mo_rank_36 : decode prog_14_method_43_code 36 = .ok (.goto 25, 3) := by decide +kernel
theorem d_Mo_rank_39 : decode prog_14_method_43_code 39 = .ok (.aload_n 0, 1) := by decide +kernel
theorem d_Mo_rank_40 : decode prog_14_method_43_code 40 = .ok (.aload_n 0, 1) := by decide +kernel
theorem d_Mo_rank_41 : decode prog_14_method_43_code 41 = .ok (.aload_n 0, 1) := by decide +kernel
theorem d_Mo_rank_42 : decode prog_14_method_43_code 42 = .ok (.getfield 28, 3) := by decide +kernel
theorem d_Mo_rank_45 : decode prog_14_method_43_code 45 = .ok (.bipush 40, 2) := by decide +kernel
theorem d_Mo_rank_47 : decode prog_14_method_43_code 47 = .ok (.iload_n 1, 1) := by decide +kernel
theorem d_Mo_rank_48 : decode prog_14_method_43_code 48 = .ok (.imul, 1) := by decide +kernel
theorem d_Mo_rank_49 : decode prog_14_method_43_code 49 = .ok (.aload_n 0, 1) := by decide +kernel
theorem d_Mo_rank_50 : decode prog_14_method_43_code 50 = .ok (.getfield 25, 3) := by decide +kernel
theorem d_Mo_rank_53 : decode prog_14_method_43_code 53 = .ok (.iload_n 1, 1) := by decide +kernel
theorem d_Mo_rank_54 : decode prog_14_method_43_code 54 = .ok (.iaload, 1) := by decide +kernel
theorem d_Mo_rank_55 : decode prog_14_method_43_code 55 = .ok (.invokevirtual 207, 3) := by decide +kernel
theorem d_Mo_rank_58 : decode prog_14_method_43_code 58 = .ok (.invokevirtual 117, 3) := by decide +kernel
theorem d_Mo_rank_61 : decode prog_14_method_43_code 61 = .ok (.ireturn, 1) := by decide +kernel
theorem d_Mo_rankOf_0 : decode prog_14_method_25_code 0 = .ok (.iconst 0, 1) := by decide +kernel
theorem d_Mo_rankOf_1 : decode prog_14_method_25_code 1 = .ok (.istore 4, 2) := by decide +kernel
theorem d_Mo_rankOf_3 : decode prog_14_method_25_code 3 = .ok (.iconst 0, 1) := by decide +kernel
theorem d_Mo_rankOf_4 : decode prog_14_method_25_code 4 = .ok (.istore 5, 2) := by decide +kernel
theorem d_Mo_rankOf_6 : decode prog_14_method_25_code 6 = .ok (.iconst 0, 1) := by decide +kernel
theorem d_Mo_rankOf_7 : decode prog_14_method_25_code 7 = .ok (.istore 6, 2) := by decide +kernel
theorem d_Mo_rankOf_9 : decode prog_14_method_25_code 9 = .ok (.iload 6, 2) := by decide +kernel
theorem d_Mo_rankOf_11 : decode prog_14_method_25_code 11 = .ok (.iconst 2, 1) := by decide +kernel
theorem d_Mo_rankOf_12 : decode prog_14_method_25_code 12 = .ok (.iload_n 3, 1) := by decide +kernel
theorem d_Mo_rankOf_13 : decode prog_14_method_25_code 13 = .ok (.imul, 1) := by decide +kernel
theorem d_Mo_rankOf_14 : decode prog_14_method_25_code 14 = .ok (.if_icmp .ge 70, 3) := by decide +kernel
theorem d_Mo_rankOf_17 : decode prog_14_method_25_code 17 = .ok (.aload_n 1, 1) := by decide +kernel
theorem d_Mo_rankOf_18 : decode prog_14_method_25_code 18 = .ok (.iload_n 2, 1) := by decide +kernel
theorem d_Mo_rankOf_19 : decode prog_14_method_25_code 19 = .ok (.iload 6, 2) := by decide +kernel
theorem d_Mo_rankOf_21 : decode prog_14_method_25_code 21 = .ok (.iadd, 1) := by decide +kernel
theorem d_Mo_rankOf_22 : decode prog_14_method_25_code 22 = .ok (.iaload, 1) := by decide +kernel
theorem d_Mo_rankOf_23 : decode prog_14_method_25_code 23 = .ok (.ifCond .le 7, 3) := by decide +kernel
theorem d_Mo_rankOf_26 : decode prog_14_method_25_code 26 = .ok (.iconst 1, 1) := by decide +kernel
theorem d_Mo_rankOf_27 : decode prog_14_method_25_code 27 = .ok (.goto 4, 3) := by decide +kernel
theorem d_Mo_rankOf_30 : decode prog_14_method_25_code 30 = .ok (.iconst 0, 1) := by decide +kernel
theorem d_Mo_rankOf_31 : decode prog_14_method_25_code 31 = .ok (.istore 7, 2) := by decide +kernel
theorem d_Mo_rankOf_33 : decode prog_14_method_25_code 33 = .ok (.iload 4, 2) := by decide +kernel
theorem d_Mo_rankOf_35 : decode prog_14_method_25_code 35 = .ok (.iload 7, 2) := by decide +kernel
theorem d_Mo_rankOf_37 : decode prog_14_method_25_code 37 = .ok (.ifCond .eq 7, 3) := by decide +kernel
theorem d_Mo_rankOf_40 : decode prog_14_method_25_code 40 = .ok (.iconst 0, 1) := by decide +kernel
theorem d_Mo_rankOf_41 : decode prog_14_method_25_code 41 = .ok (.goto 19, 3) := by decide +kernel
theorem d_Mo_rankOf_44 : decode prog_14_method_25_code 44 = .ok (.aload_n 0, 1) := by decide +kernel
theorem d_Mo_rankOf_45 : decode prog_14_method_25_code 45 = .ok (.iconst 2, 1) := by decide +kernel
theorem d_Mo_rankOf_46 : decode prog_14_method_25_code 46 = .ok (.iload_n 3, 1) := by decide +kernel
theorem d_Mo_rankOf_47 : decode prog_14_method_25_code 47 = .ok (.imul, 1) := by decide +kernel
theorem d_Mo_rankOf_48 : decode prog_14_method_25_code 48 = .ok (.iload 6, 2) := by decide +kernel
theorem d_Mo_rankOf_50 : decode prog_14_method_25_code 50 = .ok (.isub, 1) := by decide +kernel
theorem d_Mo_rankOf_51 : decode prog_14_method_25_code 51 = .ok (.iconst 1, 1) := by decide +kernel
theorem d_Mo_rankOf_52 : decode prog_14_method_25_code 52 = .ok (.isub, 1) := by decide +kernel
theorem d_Mo_rankOf_53 : decode prog_14_method_25_code 53 = .ok (.iload 5, 2) := by decide +kernel
theorem d_Mo_rankOf_55 : decode prog_14_method_25_code 55 = .ok (.iconst 1, 1) := by decide +kernel
theorem d_Mo_rankOf_56 : decode prog_14_method_25_code 56 = .ok (.iadd, 1) := by decide +kernel
theorem d_Mo_rankOf_57 : decode prog_14_method_25_code 57 = .ok (.invokevirtual 172, 3) := by decide +kernel
theorem d_Mo_rankOf_60 : decode prog_14_method_25_code 60 = .ok (.iadd, 1) := by decide +kernel
theorem d_Mo_rankOf_61 : decode prog_14_method_25_code 61 = .ok (.istore 4, 2) := by decide +kernel
theorem d_Mo_rankOf_63 : decode prog_14_method_25_code 63 = .ok (.iload 5, 2) := by decide +kernel
theorem d_Mo_rankOf_65 : decode prog_14_method_25_code 65 = .ok (.iload 7, 2) := by decide +kernel
theorem d_Mo_rankOf_67 : decode prog_14_method_25_code 67 = .ok (.ifCond .eq 7, 3) := by decide +kernel
theorem d_Mo_rankOf_70 : decode prog_14_method_25_code 70 = .ok (.iconst 1, 1) := by decide +kernel
theorem d_Mo_rankOf_71 : decode prog_14_method_25_code 71 = .ok (.goto 4, 3) := by decide +kernel
theorem d_Mo_rankOf_74 : decode prog_14_method_25_code 74 = .ok (.iconst (-1), 1) := by decide +kernel
theorem d_Mo_rankOf_75 : decode prog_14_method_25_code 75 = .ok (.iadd, 1) := by decide +kernel
theorem d_Mo_rankOf_76 : decode prog_14_method_25_code 76 = .ok (.istore 5, 2) := by decide +kernel
theorem d_Mo_rankOf_78 : decode prog_14_method_25_code 78 = .ok (.iinc 6 1, 3) := by decide +kernel
theorem d_Mo_rankOf_81 : decode prog_14_method_25_code 81 = .ok (.goto (-72), 3) := by decide +kernel
theorem d_Mo_rankOf_84 : decode prog_14_method_25_code 84 = .ok (.iload 4, 2) := by decide +kernel
theorem d_Mo_rankOf_86 : decode prog_14_method_25_code 86 = .ok (.ireturn, 1) := by decide +kernel
theorem d_Mo_loops_0 : decode prog_14_method_44_code 0 = .ok (.iload_n 1, 1) := by decide +kernel
theorem d_Mo_loops_1 : decode prog_14_method_44_code 1 = .ok (.invokestatic 152, 3) := by decide +kernel
theorem d_Mo_loops_4 : decode prog_14_method_44_code 4 = .ok (.ifCond .ne 6, 3) := by decide +kernel
theorem d_Mo_loops_7 : decode prog_14_method_44_code 7 = .ok (.ldc 112, 2) := by decide +kernel
theorem d_Mo_loops_9 : decode prog_14_method_44_code 9 = .ok (.ireturn, 1) := by decide +kernel
theorem d_Mo_loops_10 : decode prog_14_method_44_code 10 = .ok (.aload_n 0, 1) := by decide +kernel
theorem d_Mo_loops_11 : decode prog_14_method_44_code 11 = .ok (.iload_n 1, 1) := by decide +kernel
theorem d_Mo_loops_12 : decode prog_14_method_44_code 12 = .ok (.iconst 5, 1) := by decide +kernel
theorem d_Mo_loops_13 : decode prog_14_method_44_code 13 = .ok (.invokevirtual 165, 3) := by decide +kernel
theorem d_Mo_loops_16 : decode prog_14_method_44_code 16 = .ok (.istore_n 3, 1) := by decide +kernel
theorem d_Mo_loops_17 : decode prog_14_method_44_code 17 = .ok (.iload_n 3, 1) := by decide +kernel
theorem d_Mo_loops_18 : decode prog_14_method_44_code 18 = .ok (.ifCond .eq 5, 3) := by decide +kernel
theorem d_Mo_loops_21 : decode prog_14_method_44_code 21 = .ok (.iload_n 3, 1) := by decide +kernel
theorem d_Mo_loops_22 : decode prog_14_method_44_code 22 = .ok (.ireturn, 1) := by decide +kernel
theorem d_Mo_loops_23 : decode prog_14_method_44_code 23 = .ok (.iload_n 2, 1) := by decide +kernel
theorem d_Mo_loops_24 : decode prog_14_method_44_code 24 = .ok (.i2l, 1) := by decide +kernel
theorem d_Mo_loops_25 : decode prog_14_method_44_code 25 = .ok (.ldc2_w 211, 3) := by decide +kernel
theorem d_Mo_loops_28 : decode prog_14_method_44_code 28 = .ok (.iconst 2, 1) := by decide +kernel
theorem d_Mo_loops_29 : decode prog_14_method_44_code 29 = .ok (.aload_n 0, 1) := by decide +kernel
theorem d_Mo_loops_30 : decode prog_14_method_44_code 30 = .ok (.getfield 25, 3) := by decide +kernel
theorem d_Mo_loops_33 : decode prog_14_method_44_code 33 = .ok (.iload_n 1, 1) := by decide +kernel
theorem d_Mo_loops_34 : decode prog_14_method_44_code 34 = .ok (.iaload, 1) := by decide +kernel
theorem d_Mo_loops_35 : decode prog_14_method_44_code 35 = .ok (.imul, 1) := by decide +kernel
theorem d_Mo_loops_36 : decode prog_14_method_44_code 36 = .ok (.iconst 1, 1) := by decide +kernel
theorem d_Mo_loops_37 : decode prog_14_method_44_code 37 = .ok (.isub, 1) := by decide +kernel
theorem d_Mo_loops_38 : decode prog_14_method_44_code 38 = .ok (.i2l, 1) := by decide +kernel
theorem d_Mo_loops_39 : decode prog_14_method_44_code 39 = .ok (.invokestatic 102, 3) := by decide +kernel
theorem d_Mo_loops_42 : decode prog_14_method_44_code 42 = .ok (.ifCond .ne 6, 3) := by decide +kernel
theorem d_Mo_loops_45 : decode prog_14_method_44_code 45 = .ok (.ldc 112, 2) := by decide +kernel
theorem d_Mo_loops_47 : decode prog_14_method_44_code 47 = .ok (.ireturn, 1) := by decide +kernel
theorem d_Mo_loops_48 : decode prog_14_method_44_code 48 = .ok (.aload_n 0, 1) := by decide +kernel
theorem d_Mo_loops_49 : decode prog_14_method_44_code 49 = .ok (.iload_n 1, 1) := by decide +kernel
theorem d_Mo_loops_50 : decode prog_14_method_44_code 50 = .ok (.invokevirtual 141, 3) := by decide +kernel
theorem d_Mo_loops_53 : decode prog_14_method_44_code 53 = .ok (.istore 4, 2) := by decide +kernel
theorem d_Mo_loops_55 : decode prog_14_method_44_code 55 = .ok (.aload_n 0, 1) := by decide +kernel
theorem d_Mo_loops_56 : decode prog_14_method_44_code 56 = .ok (.iload_n 2, 1) := by decide +kernel
theorem d_Mo_loops_57 : decode prog_14_method_44_code 57 = .ok (.ifCond .ge 8, 3) := by decide +kernel
theorem d_Mo_loops_60 : decode prog_14_method_44_code 60 = .ok (.iload 4, 2) := by decide +kernel
theorem d_Mo_loops_62 : decode prog_14_method_44_code 62 = .ok (.goto 9, 3) := by decide +kernel
theorem d_Mo_loops_65 : decode prog_14_method_44_code 65 = .ok (.aload_n 0, 1) := by decide +kernel
theorem d_Mo_loops_66 : decode prog_14_method_44_code 66 = .ok (.getfield 46, 3) := by decide +kernel
theorem d_Mo_loops_69 : decode prog_14_method_44_code 69 = .ok (.iload_n 2, 1) := by decide +kernel
theorem d_Mo_loops_70 : decode prog_14_method_44_code 70 = .ok (.iaload, 1) := by decide +kernel
theorem d_Mo_loops_71 : decode prog_14_method_44_code 71 = .ok (.invokevirtual 117, 3) := by decide +kernel
theorem d_Mo_loops_74 : decode prog_14_method_44_code 74 = .ok (.ireturn, 1) := by decide +kernel
theorem d_Mo_way_0 : decode prog_14_method_45_code 0 = .ok (.iload_n 1, 1) := by decide +kernel
theorem d_Mo_way_1 : decode prog_14_method_45_code 1 = .ok (.invokestatic 152, 3) := by decide +kernel
theorem d_Mo_way_4 : decode prog_14_method_45_code 4 = .ok (.ifCond .ne 6, 3) := by decide +kernel
theorem d_Mo_way_7 : decode prog_14_method_45_code 7 = .ok (.ldc 112, 2) := by decide +kernel
theorem d_Mo_way_9 : decode prog_14_method_45_code 9 = .ok (.ireturn, 1) := by decide +kernel
theorem d_Mo_way_10 : decode prog_14_method_45_code 10 = .ok (.aload_n 0, 1) := by decide +kernel
theorem d_Mo_way_11 : decode prog_14_method_45_code 11 = .ok (.iload_n 1, 1) := by decide +kernel
theorem d_Mo_way_12 : decode prog_14_method_45_code 12 = .ok (.iconst 5, 1) := by decide +kernel
theorem d_Mo_way_13 : decode prog_14_method_45_code 13 = .ok (.invokevirtual 165, 3) := by decide +kernel
theorem d_Mo_way_16 : decode prog_14_method_45_code 16 = .ok (.istore 4, 2) := by decide +kernel
theorem d_Mo_way_18 : decode prog_14_method_45_code 18 = .ok (.iload 4, 2) := by decide +kernel
theorem d_Mo_way_20 : decode prog_14_method_45_code 20 = .ok (.ifCond .eq 6, 3) := by decide +kernel
theorem d_Mo_way_23 : decode prog_14_method_45_code 23 = .ok (.iload 4, 2) := by decide +kernel
theorem d_Mo_way_25 : decode prog_14_method_45_code 25 = .ok (.ireturn, 1) := by decide +kernel
theorem d_Mo_way_26 : decode prog_14_method_45_code 26 = .ok (.iload_n 2, 1) := by decide +kernel
theorem d_Mo_way_27 : decode prog_14_method_45_code 27 = .ok (.i2l, 1) := by decide +kernel
theorem d_Mo_way_28 : decode prog_14_method_45_code 28 = .ok (.lconst 0, 1) := by decide +kernel
theorem d_Mo_way_29 : decode prog_14_method_45_code 29 = .ok (.iconst 2, 1) := by decide +kernel
theorem d_Mo_way_30 : decode prog_14_method_45_code 30 = .ok (.aload_n 0, 1) := by decide +kernel
theorem d_Mo_way_31 : decode prog_14_method_45_code 31 = .ok (.getfield 25, 3) := by decide +kernel
theorem d_Mo_way_34 : decode prog_14_method_45_code 34 = .ok (.iload_n 1, 1) := by decide +kernel
theorem d_Mo_way_35 : decode prog_14_method_45_code 35 = .ok (.iaload, 1) := by decide +kernel
theorem d_Mo_way_36 : decode prog_14_method_45_code 36 = .ok (.imul, 1) := by decide +kernel
theorem d_Mo_way_37 : decode prog_14_method_45_code 37 = .ok (.iconst 1, 1) := by decide +kernel
theorem d_Mo_way_38 : decode prog_14_method_45_code 38 = .ok (.isub, 1) := by decide +kernel
theorem d_Mo_way_39 : decode prog_14_method_45_code 39 = .ok (.i2l, 1) := by decide +kernel
theorem d_Mo_way_40 : decode prog_14_method_45_code 40 = .ok (.invokestatic 102, 3) := by decide +kernel
theorem d_Mo_way_43 : decode prog_14_method_45_code 43 = .ok (.ifCond .ne 6, 3) := by decide +kernel
theorem d_Mo_way_46 : decode prog_14_method_45_code 46 = .ok (.ldc 112, 2) := by decide +kernel
theorem d_Mo_way_48 : decode prog_14_method_45_code 48 = .ok (.ireturn, 1) := by decide +kernel
theorem d_Mo_way_49 : decode prog_14_method_45_code 49 = .ok (.aload_n 0, 1) := by decide +kernel
theorem d_Mo_way_50 : decode prog_14_method_45_code 50 = .ok (.iload_n 1, 1) := by decide +kernel
theorem d_Mo_way_51 : decode prog_14_method_45_code 51 = .ok (.invokevirtual 141, 3) := by decide +kernel
theorem d_Mo_way_54 : decode prog_14_method_45_code 54 = .ok (.istore 5, 2) := by decide +kernel
theorem d_Mo_way_56 : decode prog_14_method_45_code 56 = .ok (.iconst 0, 1) := by decide +kernel
theorem d_Mo_way_57 : decode prog_14_method_45_code 57 = .ok (.istore 6, 2) := by decide +kernel
theorem d_Mo_way_59 : decode prog_14_method_45_code 59 = .ok (.iconst 0, 1) := by decide +kernel
theorem d_Mo_way_60 : decode prog_14_method_45_code 60 = .ok (.istore 7, 2) := by decide +kernel
theorem d_Mo_way_62 : decode prog_14_method_45_code 62 = .ok (.iload 7, 2) := by decide +kernel
theorem d_Mo_way_64 : decode prog_14_method_45_code 64 = .ok (.iconst 2, 1) := by decide +kernel
theorem d_Mo_way_65 : decode prog_14_method_45_code 65 = .ok (.aload_n 0, 1) := by decide +kernel
theorem d_Mo_way_66 : decode prog_14_method_45_code 66 = .ok (.getfield 25, 3) := by decide +kernel
theorem d_Mo_way_69 : decode prog_14_method_45_code 69 = .ok (.iload_n 1, 1) := by decide +kernel
theorem d_Mo_way_70 : decode prog_14_method_45_code 70 = .ok (.iaload, 1) := by decide +kernel
theorem d_Mo_way_71 : decode prog_14_method_45_code 71 = .ok (.imul, 1) := by decide +kernel
theorem d_Mo_way_72 : decode prog_14_method_45_code 72 = .ok (.if_icmp .ge 35, 3) := by decide +kernel
theorem d_Mo_way_75 : decode prog_14_method_45_code 75 = .ok (.iload 6, 2) := by decide +kernel
theorem d_Mo_way_77 : decode prog_14_method_45_code 77 = .ok (.aload_n 0, 1) := by decide +kernel
theorem d_Mo_way_78 : decode prog_14_method_45_code 78 = .ok (.getfield 46, 3) := by decide +kernel
theorem d_Mo_way_81 : decode prog_14_method_45_code 81 = .ok (.iload 7, 2) := by decide +kernel
theorem d_Mo_way_83 : decode prog_14_method_45_code 83 = .ok (.iaload, 1) := by decide +kernel
theorem d_Mo_way_84 : decode prog_14_method_45_code 84 = .ok (.aload_n 0, 1) := by decide +kernel
theorem d_Mo_way_85 : decode prog_14_method_45_code 85 = .ok (.getfield 46, 3) := by decide +kernel
theorem d_Mo_way_88 : decode prog_14_method_45_code 88 = .ok (.iload_n 2, 1) := by decide +kernel
theorem d_Mo_way_89 : decode prog_14_method_45_code 89 = .ok (.iaload, 1) := by decide +kernel
theorem d_Mo_way_90 : decode prog_14_method_45_code 90 = .ok (.if_icmp .ne 7, 3) := by decide +kernel
theorem d_Mo_way_93 : decode prog_14_method_45_code 93 = .ok (.iconst 1, 1) := by decide +kernel
theorem d_Mo_way_94 : decode prog_14_method_45_code 94 = .ok (.goto 4, 3) := by decide +kernel
theorem d_Mo_way_97 : decode prog_14_method_45_code 97 = .ok (.iconst 0, 1) := by decide +kernel
theorem d_Mo_way_98 : decode prog_14_method_45_code 98 = .ok (.iadd, 1) := by decide +kernel
theorem d_Mo_way_99 : decode prog_14_method_45_code 99 = .ok (.istore 6, 2) := by decide +kernel
theorem d_Mo_way_101 : decode prog_14_method_45_code 101 = .ok (.iinc 7 1, 3) := by decide +kernel
theorem d_Mo_way_104 : decode prog_14_method_45_code 104 = .ok (.goto (-42), 3) := by decide +kernel
theorem d_Mo_way_107 : decode prog_14_method_45_code 107 = .ok (.iload_n 3, 1) := by decide +kernel
theorem d_Mo_way_108 : decode prog_14_method_45_code 108 = .ok (.i2l, 1) := by decide +kernel
theorem d_Mo_way_109 : decode prog_14_method_45_code 109 = .ok (.lconst 0, 1) := by decide +kernel
theorem d_Mo_way_110 : decode prog_14_method_45_code 110 = .ok (.iload 6, 2) := by decide +kernel
theorem d_Mo_way_112 : decode prog_14_method_45_code 112 = .ok (.iconst 1, 1) := by decide +kernel
theorem d_Mo_way_113 : decode prog_14_method_45_code 113 = .ok (.isub, 1) := by decide +kernel
theorem d_Mo_way_114 : decode prog_14_method_45_code 114 = .ok (.i2l, 1) := by decide +kernel
theorem d_Mo_way_115 : decode prog_14_method_45_code 115 = .ok (.invokestatic 102, 3) := by decide +kernel
theorem d_Mo_way_118 : decode prog_14_method_45_code 118 = .ok (.ifCond .ne 10, 3) := by decide +kernel
theorem d_Mo_way_121 : decode prog_14_method_45_code 121 = .ok (.aload_n 0, 1) := by decide +kernel
theorem d_Mo_way_122 : decode prog_14_method_45_code 122 = .ok (.ldc 136, 2) := by decide +kernel
theorem d_Mo_way_124 : decode prog_14_method_45_code 124 = .ok (.invokevirtual 117, 3) := by decide +kernel
theorem d_Mo_way_127 : decode prog_14_method_45_code 127 = .ok (.ireturn, 1) := by decide +kernel
theorem d_Mo_way_128 : decode prog_14_method_45_code 128 = .ok (.iload_n 2, 1) := by decide +kernel
theorem d_Mo_way_129 : decode prog_14_method_45_code 129 = .ok (.istore 7, 2) := by decide +kernel
theorem d_Mo_way_131 : decode prog_14_method_45_code 131 = .ok (.iconst 0, 1) := by decide +kernel
theorem d_Mo_way_132 : decode prog_14_method_45_code 132 = .ok (.istore 8, 2) := by decide +kernel
theorem d_Mo_way_134 : decode prog_14_method_45_code 134 = .ok (.iload 8, 2) := by decide +kernel
theorem d_Mo_way_136 : decode prog_14_method_45_code 136 = .ok (.iload_n 3, 1) := by decide +kernel
theorem d_Mo_way_137 : decode prog_14_method_45_code 137 = .ok (.if_icmp .ge 45, 3) := by decide +kernel
theorem d_Mo_way_140 : decode prog_14_method_45_code 140 = .ok (.iload 8, 2) := by decide +kernel
theorem d_Mo_way_142 : decode prog_14_method_45_code 142 = .ok (.iconst 2, 1) := by decide +kernel
theorem d_Mo_way_143 : decode prog_14_method_45_code 143 = .ok (.irem, 1) := by decide +kernel
theorem d_Mo_way_144 : decode prog_14_method_45_code 144 = .ok (.ifCond .ne 18, 3) := by decide +kernel
theorem d_Mo_way_147 : decode prog_14_method_45_code 147 = .ok (.aload_n 0, 1) := by decide +kernel
theorem d_Mo_way_148 : decode prog_14_method_45_code 148 = .ok (.getfield 34, 3) := by decide +kernel
theorem d_Mo_way_151 : decode prog_14_method_45_code 151 = .ok (.bipush 40, 2) := by decide +kernel
theorem d_Mo_way_153 : decode prog_14_method_45_code 153 = .ok (.iload_n 1, 1) := by decide +kernel
theorem d_Mo_way_154 : decode prog_14_method_45_code 154 = .ok (.imul, 1) := by decide +kernel
theorem d_Mo_way_155 : decode prog_14_method_45_code 155 = .ok (.iload 7, 2) := by decide +kernel
theorem d_Mo_way_157 : decode prog_14_method_45_code 157 = .ok (.iadd, 1) := by decide +kernel
theorem d_Mo_way_158 : decode prog_14_method_45_code 158 = .ok (.iaload, 1) := by decide +kernel
theorem d_Mo_way_159 : decode prog_14_method_45_code 159 = .ok (.goto 15, 3) := by decide +kernel
theorem d_Mo_way_162 : decode prog_14_method_45_code 162 = .ok (.aload_n 0, 1) := by decide +kernel
theorem d_Mo_way_163 : decode prog_14_method_45_code 163 = .ok (.getfield 37, 3) := by decide +kernel
theorem d_Mo_way_166 : decode prog_14_method_45_code 166 = .ok (.bipush 40, 2) := by decide +kernel
theorem d_Mo_way_168 : decode prog_14_method_45_code 168 = .ok (.iload_n 1, 1) := by decide +kernel
theorem d_Mo_way_169 : decode prog_14_method_45_code 169 = .ok (.imul, 1) := by decide +kernel
theorem d_Mo_way_170 : decode prog_14_method_45_code 170 = .ok (.iload 7, 2) := by decide +kernel
theorem d_Mo_way_172 : decode prog_14_method_45_code 172 = .ok (.iadd, 1) := by decide +kernel
theorem d_Mo_way_173 : decode prog_14_method_45_code 173 = .ok (.iaload, 1) := by decide +kernel
theorem d_Mo_way_174 : decode prog_14_method_45_code 174 = .ok (.istore 7, 2) := by decide +kernel
theorem d_Mo_way_176 : decode prog_14_method_45_code 176 = .ok (.iinc 8 1, 3) := by decide +kernel
theorem d_Mo_way_179 : decode prog_14_method_45_code 179 = .ok (.goto (-45), 3) := by decide +kernel
theorem d_Mo_way_182 : decode prog_14_method_45_code 182 = .ok (.aload_n 0, 1) := by decide +kernel
theorem d_Mo_way_183 : decode prog_14_method_45_code 183 = .ok (.iload 7, 2) := by decide +kernel
theorem d_Mo_way_185 : decode prog_14_method_45_code 185 = .ok (.invokevirtual 117, 3) := by decide +kernel
theorem d_Mo_way_188 : decode prog_14_method_45_code 188 = .ok (.ireturn, 1) := by decide +kernel
theorem d_Mo_lands_0 : decode prog_14_method_48_code 0 = .ok (.iload_n 1, 1) := by decide +kernel
theorem d_Mo_lands_1 : decode prog_14_method_48_code 1 = .ok (.i2l, 1) := by decide +kernel
theorem d_Mo_lands_2 : decode prog_14_method_48_code 2 = .ok (.lconst 1, 1) := by decide +kernel
theorem d_Mo_lands_3 : decode prog_14_method_48_code 3 = .ok (.ldc2_w 100, 3) := by decide +kernel
theorem d_Mo_lands_6 : decode prog_14_method_48_code 6 = .ok (.invokestatic 102, 3) := by decide +kernel
theorem d_Mo_lands_9 : decode prog_14_method_48_code 9 = .ok (.ifCond .eq 7, 3) := by decide +kernel
theorem d_Mo_lands_12 : decode prog_14_method_48_code 12 = .ok (.iload_n 2, 1) := by decide +kernel
theorem d_Mo_lands_13 : decode prog_14_method_48_code 13 = .ok (.ifCond .ge 6, 3) := by decide +kernel
theorem d_Mo_lands_16 : decode prog_14_method_48_code 16 = .ok (.ldc 112, 2) := by decide +kernel
theorem d_Mo_lands_18 : decode prog_14_method_48_code 18 = .ok (.ireturn, 1) := by decide +kernel
theorem d_Mo_lands_19 : decode prog_14_method_48_code 19 = .ok (.aload_n 0, 1) := by decide +kernel
theorem d_Mo_lands_20 : decode prog_14_method_48_code 20 = .ok (.iload_n 1, 1) := by decide +kernel
theorem d_Mo_lands_21 : decode prog_14_method_48_code 21 = .ok (.invokevirtual 216, 3) := by decide +kernel
theorem d_Mo_lands_24 : decode prog_14_method_48_code 24 = .ok (.iload_n 2, 1) := by decide +kernel
theorem d_Mo_lands_25 : decode prog_14_method_48_code 25 = .ok (.bipush 7, 2) := by decide +kernel
theorem d_Mo_lands_27 : decode prog_14_method_48_code 27 = .ok (.if_icmp .le 7, 3) := by decide +kernel
theorem d_Mo_lands_30 : decode prog_14_method_48_code 30 = .ok (.iconst 0, 1) := by decide +kernel
theorem d_Mo_lands_31 : decode prog_14_method_48_code 31 = .ok (.goto 14, 3) := by decide +kernel
theorem d_Mo_lands_34 : decode prog_14_method_48_code 34 = .ok (.aload_n 0, 1) := by decide +kernel
theorem d_Mo_lands_35 : decode prog_14_method_48_code 35 = .ok (.getfield 65, 3) := by decide +kernel
theorem d_Mo_lands_38 : decode prog_14_method_48_code 38 = .ok (.bipush 8, 2) := by decide +kernel
theorem d_Mo_lands_40 : decode prog_14_method_48_code 40 = .ok (.iload_n 1, 1) := by decide +kernel
theorem d_Mo_lands_41 : decode prog_14_method_48_code 41 = .ok (.imul, 1) := by decide +kernel
theorem d_Mo_lands_42 : decode prog_14_method_48_code 42 = .ok (.iload_n 2, 1) := by decide +kernel
theorem d_Mo_lands_43 : decode prog_14_method_48_code 43 = .ok (.iadd, 1) := by decide +kernel
theorem d_Mo_lands_44 : decode prog_14_method_48_code 44 = .ok (.iaload, 1) := by decide +kernel
theorem d_Mo_lands_45 : decode prog_14_method_48_code 45 = .ok (.ireturn, 1) := by decide +kernel
theorem d_Mo_countLands_0 : decode prog_14_method_47_code 0 = .ok (.aload_n 0, 1) := by decide +kernel
theorem d_Mo_countLands_1 : decode prog_14_method_47_code 1 = .ok (.getfield 68, 3) := by decide +kernel
theorem d_Mo_countLands_4 : decode prog_14_method_47_code 4 = .ok (.iload_n 1, 1) := by decide +kernel
theorem d_Mo_countLands_5 : decode prog_14_method_47_code 5 = .ok (.baload, 1) := by decide +kernel
theorem d_Mo_countLands_6 : decode prog_14_method_47_code 6 = .ok (.ifCond .eq 4, 3) := by decide +kernel
theorem d_Mo_countLands_9 : decode prog_14_method_47_code 9 = .ok (.return_, 1) := by decide +kernel
theorem d_Mo_countLands_10 : decode prog_14_method_47_code 10 = .ok (.aload_n 0, 1) := by decide +kernel
theorem d_Mo_countLands_11 : decode prog_14_method_47_code 11 = .ok (.getfield 68, 3) := by decide +kernel
theorem d_Mo_countLands_14 : decode prog_14_method_47_code 14 = .ok (.iload_n 1, 1) := by decide +kernel
theorem d_Mo_countLands_15 : decode prog_14_method_47_code 15 = .ok (.iconst 1, 1) := by decide +kernel
theorem d_Mo_countLands_16 : decode prog_14_method_47_code 16 = .ok (.bastore, 1) := by decide +kernel
theorem d_Mo_countLands_17 : decode prog_14_method_47_code 17 = .ok (.aload_n 0, 1) := by decide +kernel
theorem d_Mo_countLands_18 : decode prog_14_method_47_code 18 = .ok (.iload_n 1, 1) := by decide +kernel
theorem d_Mo_countLands_19 : decode prog_14_method_47_code 19 = .ok (.invokevirtual 213, 3) := by decide +kernel
theorem d_Mo_countLands_22 : decode prog_14_method_47_code 22 = .ok (.istore_n 2, 1) := by decide +kernel
theorem d_Mo_countLands_23 : decode prog_14_method_47_code 23 = .ok (.iconst 0, 1) := by decide +kernel
theorem d_Mo_countLands_24 : decode prog_14_method_47_code 24 = .ok (.istore_n 3, 1) := by decide +kernel
theorem d_Mo_countLands_25 : decode prog_14_method_47_code 25 = .ok (.iload_n 3, 1) := by decide +kernel
theorem d_Mo_countLands_26 : decode prog_14_method_47_code 26 = .ok (.iload_n 2, 1) := by decide +kernel
theorem d_Mo_countLands_27 : decode prog_14_method_47_code 27 = .ok (.if_icmp .ge 60, 3) := by decide +kernel
theorem d_Mo_countLands_30 : decode prog_14_method_47_code 30 = .ok (.iconst 0, 1) := by decide +kernel
theorem d_Mo_countLands_31 : decode prog_14_method_47_code 31 = .ok (.istore 4, 2) := by decide +kernel
theorem d_Mo_countLands_33 : decode prog_14_method_47_code 33 = .ok (.iload 4, 2) := by decide +kernel
theorem d_Mo_countLands_35 : decode prog_14_method_47_code 35 = .ok (.iload_n 2, 1) := by decide +kernel
theorem d_Mo_countLands_36 : decode prog_14_method_47_code 36 = .ok (.if_icmp .ge 45, 3) := by decide +kernel
theorem d_Mo_countLands_39 : decode prog_14_method_47_code 39 = .ok (.aload_n 0, 1) := by decide +kernel
theorem d_Mo_countLands_40 : decode prog_14_method_47_code 40 = .ok (.getfield 65, 3) := by decide +kernel
theorem d_Mo_countLands_43 : decode prog_14_method_47_code 43 = .ok (.bipush 8, 2) := by decide +kernel
theorem d_Mo_countLands_45 : decode prog_14_method_47_code 45 = .ok (.iload_n 1, 1) := by decide +kernel
theorem d_Mo_countLands_46 : decode prog_14_method_47_code 46 = .ok (.imul, 1) := by decide +kernel
theorem d_Mo_countLands_47 : decode prog_14_method_47_code 47 = .ok (.aload_n 0, 1) := by decide +kernel
theorem d_Mo_countLands_48 : decode prog_14_method_47_code 48 = .ok (.aload_n 0, 1) := by decide +kernel
theorem d_Mo_countLands_49 : decode prog_14_method_47_code 49 = .ok (.getfield 62, 3) := by decide +kernel
theorem d_Mo_countLands_52 : decode prog_14_method_47_code 52 = .ok (.bipush 14, 2) := by decide +kernel
theorem d_Mo_countLands_54 : decode prog_14_method_47_code 54 = .ok (.iload_n 3, 1) := by decide +kernel
theorem d_Mo_countLands_55 : decode prog_14_method_47_code 55 = .ok (.imul, 1) := by decide +kernel
theorem d_Mo_countLands_56 : decode prog_14_method_47_code 56 = .ok (.aload_n 0, 1) := by decide +kernel
theorem d_Mo_countLands_57 : decode prog_14_method_47_code 57 = .ok (.getfield 62, 3) := by decide +kernel
theorem d_Mo_countLands_60 : decode prog_14_method_47_code 60 = .ok (.bipush 14, 2) := by decide +kernel
theorem d_Mo_countLands_62 : decode prog_14_method_47_code 62 = .ok (.iload 4, 2) := by decide +kernel
theorem d_Mo_countLands_64 : decode prog_14_method_47_code 64 = .ok (.imul, 1) := by decide +kernel
theorem d_Mo_countLands_65 : decode prog_14_method_47_code 65 = .ok (.iload_n 1, 1) := by decide +kernel
theorem d_Mo_countLands_66 : decode prog_14_method_47_code 66 = .ok (.invokevirtual 126, 3) := by decide +kernel
theorem d_Mo_countLands_69 : decode prog_14_method_47_code 69 = .ok (.iadd, 1) := by decide +kernel
theorem d_Mo_countLands_70 : decode prog_14_method_47_code 70 = .ok (.dup2, 1) := by decide +kernel
theorem d_Mo_countLands_71 : decode prog_14_method_47_code 71 = .ok (.iaload, 1) := by decide +kernel
theorem d_Mo_countLands_72 : decode prog_14_method_47_code 72 = .ok (.iconst 1, 1) := by decide +kernel
theorem d_Mo_countLands_73 : decode prog_14_method_47_code 73 = .ok (.iadd, 1) := by decide +kernel
theorem d_Mo_countLands_74 : decode prog_14_method_47_code 74 = .ok (.iastore, 1) := by decide +kernel
theorem d_Mo_countLands_75 : decode prog_14_method_47_code 75 = .ok (.iinc 4 1, 3) := by decide +kernel
theorem d_Mo_countLands_78 : decode prog_14_method_47_code 78 = .ok (.goto (-45), 3) := by decide +kernel
theorem d_Mo_countLands_81 : decode prog_14_method_47_code 81 = .ok (.iinc 3 1, 3) := by decide +kernel
theorem d_Mo_countLands_84 : decode prog_14_method_47_code 84 = .ok (.goto (-59), 3) := by decide +kernel
theorem d_Mo_countLands_87 : decode prog_14_method_47_code 87 = .ok (.return_, 1) := by decide +kernel
theorem d_Mo_tellAll_0 : decode prog_14_method_46_code 0 = .ok (.aload_n 0, 1) := by decide +kernel
theorem d_Mo_tellAll_1 : decode prog_14_method_46_code 1 = .ok (.iconst 2, 1) := by decide +kernel
theorem d_Mo_tellAll_2 : decode prog_14_method_46_code 2 = .ok (.iload_n 1, 1) := by decide +kernel
theorem d_Mo_tellAll_3 : decode prog_14_method_46_code 3 = .ok (.imul, 1) := by decide +kernel
theorem d_Mo_tellAll_4 : decode prog_14_method_46_code 4 = .ok (.iconst 0, 1) := by decide +kernel
theorem d_Mo_tellAll_5 : decode prog_14_method_46_code 5 = .ok (.invokevirtual 172, 3) := by decide +kernel
theorem d_Mo_tellAll_8 : decode prog_14_method_46_code 8 = .ok (.istore_n 2, 1) := by decide +kernel
theorem d_Mo_tellAll_9 : decode prog_14_method_46_code 9 = .ok (.iconst 0, 1) := by decide +kernel
theorem d_Mo_tellAll_10 : decode prog_14_method_46_code 10 = .ok (.istore_n 3, 1) := by decide +kernel
theorem d_Mo_tellAll_11 : decode prog_14_method_46_code 11 = .ok (.iload_n 3, 1) := by decide +kernel
theorem d_Mo_tellAll_12 : decode prog_14_method_46_code 12 = .ok (.iload_n 2, 1) := by decide +kernel
theorem d_Mo_tellAll_13 : decode prog_14_method_46_code 13 = .ok (.if_icmp .ge 74, 3) := by decide +kernel
theorem d_Mo_tellAll_16 : decode prog_14_method_46_code 16 = .ok (.aload_n 0, 1) := by decide +kernel
theorem d_Mo_tellAll_17 : decode prog_14_method_46_code 17 = .ok (.aload_n 0, 1) := by decide +kernel
theorem d_Mo_tellAll_18 : decode prog_14_method_46_code 18 = .ok (.getfield 59, 3) := by decide +kernel
theorem d_Mo_tellAll_21 : decode prog_14_method_46_code 21 = .ok (.iconst 0, 1) := by decide +kernel
theorem d_Mo_tellAll_22 : decode prog_14_method_46_code 22 = .ok (.iload_n 1, 1) := by decide +kernel
theorem d_Mo_tellAll_23 : decode prog_14_method_46_code 23 = .ok (.iload_n 3, 1) := by decide +kernel
theorem d_Mo_tellAll_24 : decode prog_14_method_46_code 24 = .ok (.invokevirtual 177, 3) := by decide +kernel
theorem d_Mo_tellAll_27 : decode prog_14_method_46_code 27 = .ok (.istore 4, 2) := by decide +kernel
theorem d_Mo_tellAll_29 : decode prog_14_method_46_code 29 = .ok (.aload_n 0, 1) := by decide +kernel
theorem d_Mo_tellAll_30 : decode prog_14_method_46_code 30 = .ok (.aload_n 0, 1) := by decide +kernel
theorem d_Mo_tellAll_31 : decode prog_14_method_46_code 31 = .ok (.getfield 59, 3) := by decide +kernel
theorem d_Mo_tellAll_34 : decode prog_14_method_46_code 34 = .ok (.aload_n 0, 1) := by decide +kernel
theorem d_Mo_tellAll_35 : decode prog_14_method_46_code 35 = .ok (.getfield 77, 3) := by decide +kernel
theorem d_Mo_tellAll_38 : decode prog_14_method_46_code 38 = .ok (.iconst 0, 1) := by decide +kernel
theorem d_Mo_tellAll_39 : decode prog_14_method_46_code 39 = .ok (.iload_n 1, 1) := by decide +kernel
theorem d_Mo_tellAll_40 : decode prog_14_method_46_code 40 = .ok (.invokevirtual 122, 3) := by decide +kernel
theorem d_Mo_tellAll_43 : decode prog_14_method_46_code 43 = .ok (.istore 4, 2) := by decide +kernel
theorem d_Mo_tellAll_45 : decode prog_14_method_46_code 45 = .ok (.iconst 0, 1) := by decide +kernel
theorem d_Mo_tellAll_46 : decode prog_14_method_46_code 46 = .ok (.istore 5, 2) := by decide +kernel
theorem d_Mo_tellAll_48 : decode prog_14_method_46_code 48 = .ok (.iload 5, 2) := by decide +kernel
theorem d_Mo_tellAll_50 : decode prog_14_method_46_code 50 = .ok (.iconst 2, 1) := by decide +kernel
theorem d_Mo_tellAll_51 : decode prog_14_method_46_code 51 = .ok (.iload_n 1, 1) := by decide +kernel
theorem d_Mo_tellAll_52 : decode prog_14_method_46_code 52 = .ok (.imul, 1) := by decide +kernel
theorem d_Mo_tellAll_53 : decode prog_14_method_46_code 53 = .ok (.if_icmp .ge 28, 3) := by decide +kernel
theorem d_Mo_tellAll_56 : decode prog_14_method_46_code 56 = .ok (.aload_n 0, 1) := by decide +kernel
theorem d_Mo_tellAll_57 : decode prog_14_method_46_code 57 = .ok (.getfield 62, 3) := by decide +kernel
theorem d_Mo_tellAll_60 : decode prog_14_method_46_code 60 = .ok (.bipush 14, 2) := by decide +kernel
theorem d_Mo_tellAll_62 : decode prog_14_method_46_code 62 = .ok (.iload_n 3, 1) := by decide +kernel
theorem d_Mo_tellAll_63 : decode prog_14_method_46_code 63 = .ok (.imul, 1) := by decide +kernel
theorem d_Mo_tellAll_64 : decode prog_14_method_46_code 64 = .ok (.iload 5, 2) := by decide +kernel
theorem d_Mo_tellAll_66 : decode prog_14_method_46_code 66 = .ok (.iadd, 1) := by decide +kernel
theorem d_Mo_tellAll_67 : decode prog_14_method_46_code 67 = .ok (.aload_n 0, 1) := by decide +kernel
theorem d_Mo_tellAll_68 : decode prog_14_method_46_code 68 = .ok (.getfield 77, 3) := by decide +kernel
theorem d_Mo_tellAll_71 : decode prog_14_method_46_code 71 = .ok (.iload 5, 2) := by decide +kernel
theorem d_Mo_tellAll_73 : decode prog_14_method_46_code 73 = .ok (.iaload, 1) := by decide +kernel
theorem d_Mo_tellAll_74 : decode prog_14_method_46_code 74 = .ok (.iastore, 1) := by decide +kernel
theorem d_Mo_tellAll_75 : decode prog_14_method_46_code 75 = .ok (.iinc 5 1, 3) := by decide +kernel
theorem d_Mo_tellAll_78 : decode prog_14_method_46_code 78 = .ok (.goto (-30), 3) := by decide +kernel
theorem d_Mo_tellAll_81 : decode prog_14_method_46_code 81 = .ok (.iinc 3 1, 3) := by decide +kernel
theorem d_Mo_tellAll_84 : decode prog_14_method_46_code 84 = .ok (.goto (-73), 3) := by decide +kernel
theorem d_Mo_tellAll_87 : decode prog_14_method_46_code 87 = .ok (.iload_n 2, 1) := by decide +kernel
theorem d_Mo_tellAll_88 : decode prog_14_method_46_code 88 = .ok (.ireturn, 1) := by decide +kernel
theorem d_Mo_unlike_0 : decode prog_14_method_49_code 0 = .ok (.iload_n 1, 1) := by decide +kernel
theorem d_Mo_unlike_1 : decode prog_14_method_49_code 1 = .ok (.i2l, 1) := by decide +kernel
theorem d_Mo_unlike_2 : decode prog_14_method_49_code 2 = .ok (.lconst 1, 1) := by decide +kernel
theorem d_Mo_unlike_3 : decode prog_14_method_49_code 3 = .ok (.ldc2_w 219, 3) := by decide +kernel
theorem d_Mo_unlike_6 : decode prog_14_method_49_code 6 = .ok (.invokestatic 102, 3) := by decide +kernel
theorem d_Mo_unlike_9 : decode prog_14_method_49_code 9 = .ok (.ifCond .ne 6, 3) := by decide +kernel
theorem d_Mo_unlike_12 : decode prog_14_method_49_code 12 = .ok (.ldc 112, 2) := by decide +kernel
theorem d_Mo_unlike_14 : decode prog_14_method_49_code 14 = .ok (.ireturn, 1) := by decide +kernel
theorem d_Mo_unlike_15 : decode prog_14_method_49_code 15 = .ok (.aload_n 0, 1) := by decide +kernel
theorem d_Mo_unlike_16 : decode prog_14_method_49_code 16 = .ok (.getfield 71, 3) := by decide +kernel
theorem d_Mo_unlike_19 : decode prog_14_method_49_code 19 = .ok (.iload_n 1, 1) := by decide +kernel
theorem d_Mo_unlike_20 : decode prog_14_method_49_code 20 = .ok (.iaload, 1) := by decide +kernel
theorem d_Mo_unlike_21 : decode prog_14_method_49_code 21 = .ok (.ifCond .le 10, 3) := by decide +kernel
theorem d_Mo_unlike_24 : decode prog_14_method_49_code 24 = .ok (.aload_n 0, 1) := by decide +kernel
theorem d_Mo_unlike_25 : decode prog_14_method_49_code 25 = .ok (.getfield 71, 3) := by decide +kernel
theorem d_Mo_unlike_28 : decode prog_14_method_49_code 28 = .ok (.iload_n 1, 1) := by decide +kernel
theorem d_Mo_unlike_29 : decode prog_14_method_49_code 29 = .ok (.iaload, 1) := by decide +kernel
theorem d_Mo_unlike_30 : decode prog_14_method_49_code 30 = .ok (.ireturn, 1) := by decide +kernel
theorem d_Mo_unlike_31 : decode prog_14_method_49_code 31 = .ok (.aload_n 0, 1) := by decide +kernel
theorem d_Mo_unlike_32 : decode prog_14_method_49_code 32 = .ok (.iload_n 1, 1) := by decide +kernel
theorem d_Mo_unlike_33 : decode prog_14_method_49_code 33 = .ok (.invokevirtual 213, 3) := by decide +kernel
theorem d_Mo_unlike_36 : decode prog_14_method_49_code 36 = .ok (.istore_n 2, 1) := by decide +kernel
theorem d_Mo_unlike_37 : decode prog_14_method_49_code 37 = .ok (.iconst 0, 1) := by decide +kernel
theorem d_Mo_unlike_38 : decode prog_14_method_49_code 38 = .ok (.istore_n 3, 1) := by decide +kernel
theorem d_Mo_unlike_39 : decode prog_14_method_49_code 39 = .ok (.iload_n 3, 1) := by decide +kernel
theorem d_Mo_unlike_40 : decode prog_14_method_49_code 40 = .ok (.iload_n 2, 1) := by decide +kernel
theorem d_Mo_unlike_41 : decode prog_14_method_49_code 41 = .ok (.if_icmp .ge 87, 3) := by decide +kernel
theorem d_Mo_unlike_44 : decode prog_14_method_49_code 44 = .ok (.aload_n 0, 1) := by decide +kernel
theorem d_Mo_unlike_45 : decode prog_14_method_49_code 45 = .ok (.aload_n 0, 1) := by decide +kernel
theorem d_Mo_unlike_46 : decode prog_14_method_49_code 46 = .ok (.getfield 59, 3) := by decide +kernel
theorem d_Mo_unlike_49 : decode prog_14_method_49_code 49 = .ok (.iconst 0, 1) := by decide +kernel
theorem d_Mo_unlike_50 : decode prog_14_method_49_code 50 = .ok (.aload_n 0, 1) := by decide +kernel
theorem d_Mo_unlike_51 : decode prog_14_method_49_code 51 = .ok (.getfield 62, 3) := by decide +kernel
theorem d_Mo_unlike_54 : decode prog_14_method_49_code 54 = .ok (.bipush 14, 2) := by decide +kernel
theorem d_Mo_unlike_56 : decode prog_14_method_49_code 56 = .ok (.iload_n 3, 1) := by decide +kernel
theorem d_Mo_unlike_57 : decode prog_14_method_49_code 57 = .ok (.imul, 1) := by decide +kernel
theorem d_Mo_unlike_58 : decode prog_14_method_49_code 58 = .ok (.iload_n 1, 1) := by decide +kernel
theorem d_Mo_unlike_59 : decode prog_14_method_49_code 59 = .ok (.invokevirtual 181, 3) := by decide +kernel
theorem d_Mo_unlike_62 : decode prog_14_method_49_code 62 = .ok (.aload_n 0, 1) := by decide +kernel
theorem d_Mo_unlike_63 : decode prog_14_method_49_code 63 = .ok (.getfield 83, 3) := by decide +kernel
theorem d_Mo_unlike_66 : decode prog_14_method_49_code 66 = .ok (.iload_n 3, 1) := by decide +kernel
theorem d_Mo_unlike_67 : decode prog_14_method_49_code 67 = .ok (.aload_n 0, 1) := by decide +kernel
theorem d_Mo_unlike_68 : decode prog_14_method_49_code 68 = .ok (.aload_n 0, 1) := by decide +kernel
theorem d_Mo_unlike_69 : decode prog_14_method_49_code 69 = .ok (.getfield 59, 3) := by decide +kernel
theorem d_Mo_unlike_72 : decode prog_14_method_49_code 72 = .ok (.iconst 0, 1) := by decide +kernel
theorem d_Mo_unlike_73 : decode prog_14_method_49_code 73 = .ok (.iload_n 1, 1) := by decide +kernel
theorem d_Mo_unlike_74 : decode prog_14_method_49_code 74 = .ok (.invokevirtual 207, 3) := by decide +kernel
theorem d_Mo_unlike_77 : decode prog_14_method_49_code 77 = .ok (.iastore, 1) := by decide +kernel
theorem d_Mo_unlike_78 : decode prog_14_method_49_code 78 = .ok (.aload_n 0, 1) := by decide +kernel
theorem d_Mo_unlike_79 : decode prog_14_method_49_code 79 = .ok (.aload_n 0, 1) := by decide +kernel
theorem d_Mo_unlike_80 : decode prog_14_method_49_code 80 = .ok (.getfield 77, 3) := by decide +kernel
theorem d_Mo_unlike_83 : decode prog_14_method_49_code 83 = .ok (.iconst 0, 1) := by decide +kernel
theorem d_Mo_unlike_84 : decode prog_14_method_49_code 84 = .ok (.iload_n 1, 1) := by decide +kernel
theorem d_Mo_unlike_85 : decode prog_14_method_49_code 85 = .ok (.iload_n 3, 1) := by decide +kernel
theorem d_Mo_unlike_86 : decode prog_14_method_49_code 86 = .ok (.invokevirtual 177, 3) := by decide +kernel
theorem d_Mo_unlike_89 : decode prog_14_method_49_code 89 = .ok (.istore 4, 2) := by decide +kernel
theorem d_Mo_unlike_91 : decode prog_14_method_49_code 91 = .ok (.aload_n 0, 1) := by decide +kernel
theorem d_Mo_unlike_92 : decode prog_14_method_49_code 92 = .ok (.aload_n 0, 1) := by decide +kernel
theorem d_Mo_unlike_93 : decode prog_14_method_49_code 93 = .ok (.getfield 59, 3) := by decide +kernel
theorem d_Mo_unlike_96 : decode prog_14_method_49_code 96 = .ok (.iconst 0, 1) := by decide +kernel
theorem d_Mo_unlike_97 : decode prog_14_method_49_code 97 = .ok (.aload_n 0, 1) := by decide +kernel
theorem d_Mo_unlike_98 : decode prog_14_method_49_code 98 = .ok (.getfield 77, 3) := by decide +kernel
theorem d_Mo_unlike_101 : decode prog_14_method_49_code 101 = .ok (.iconst 0, 1) := by decide +kernel
theorem d_Mo_unlike_102 : decode prog_14_method_49_code 102 = .ok (.iload_n 1, 1) := by decide +kernel
theorem d_Mo_unlike_103 : decode prog_14_method_49_code 103 = .ok (.invokevirtual 185, 3) := by decide +kernel
theorem d_Mo_unlike_106 : decode prog_14_method_49_code 106 = .ok (.aload_n 0, 1) := by decide +kernel
theorem d_Mo_unlike_107 : decode prog_14_method_49_code 107 = .ok (.getfield 86, 3) := by decide +kernel
theorem d_Mo_unlike_110 : decode prog_14_method_49_code 110 = .ok (.iload_n 3, 1) := by decide +kernel
theorem d_Mo_unlike_111 : decode prog_14_method_49_code 111 = .ok (.aload_n 0, 1) := by decide +kernel
theorem d_Mo_unlike_112 : decode prog_14_method_49_code 112 = .ok (.aload_n 0, 1) := by decide +kernel
theorem d_Mo_unlike_113 : decode prog_14_method_49_code 113 = .ok (.getfield 59, 3) := by decide +kernel
theorem d_Mo_unlike_116 : decode prog_14_method_49_code 116 = .ok (.iconst 0, 1) := by decide +kernel
theorem d_Mo_unlike_117 : decode prog_14_method_49_code 117 = .ok (.iload_n 1, 1) := by decide +kernel
theorem d_Mo_unlike_118 : decode prog_14_method_49_code 118 = .ok (.invokevirtual 207, 3) := by decide +kernel
theorem d_Mo_unlike_121 : decode prog_14_method_49_code 121 = .ok (.iastore, 1) := by decide +kernel
theorem d_Mo_unlike_122 : decode prog_14_method_49_code 122 = .ok (.iinc 3 1, 3) := by decide +kernel
theorem d_Mo_unlike_125 : decode prog_14_method_49_code 125 = .ok (.goto (-86), 3) := by decide +kernel
theorem d_Mo_unlike_128 : decode prog_14_method_49_code 128 = .ok (.iconst 0, 1) := by decide +kernel
theorem d_Mo_unlike_129 : decode prog_14_method_49_code 129 = .ok (.istore_n 3, 1) := by decide +kernel
theorem d_Mo_unlike_130 : decode prog_14_method_49_code 130 = .ok (.iload_n 3, 1) := by decide +kernel
theorem d_Mo_unlike_131 : decode prog_14_method_49_code 131 = .ok (.iload_n 2, 1) := by decide +kernel
theorem d_Mo_unlike_132 : decode prog_14_method_49_code 132 = .ok (.iload_n 2, 1) := by decide +kernel
theorem d_Mo_unlike_133 : decode prog_14_method_49_code 133 = .ok (.imul, 1) := by decide +kernel
theorem d_Mo_unlike_134 : decode prog_14_method_49_code 134 = .ok (.if_icmp .ge 16, 3) := by decide +kernel
theorem d_Mo_unlike_137 : decode prog_14_method_49_code 137 = .ok (.aload_n 0, 1) := by decide +kernel
theorem d_Mo_unlike_138 : decode prog_14_method_49_code 138 = .ok (.getfield 80, 3) := by decide +kernel
theorem d_Mo_unlike_141 : decode prog_14_method_49_code 141 = .ok (.iload_n 3, 1) := by decide +kernel
theorem d_Mo_unlike_142 : decode prog_14_method_49_code 142 = .ok (.iconst 0, 1) := by decide +kernel
theorem d_Mo_unlike_143 : decode prog_14_method_49_code 143 = .ok (.bastore, 1) := by decide +kernel
theorem d_Mo_unlike_144 : decode prog_14_method_49_code 144 = .ok (.iinc 3 1, 3) := by decide +kernel
theorem d_Mo_unlike_147 : decode prog_14_method_49_code 147 = .ok (.goto (-17), 3) := by decide +kernel
theorem d_Mo_unlike_150 : decode prog_14_method_49_code 150 = .ok (.iconst 0, 1) := by decide +kernel
theorem d_Mo_unlike_151 : decode prog_14_method_49_code 151 = .ok (.istore_n 3, 1) := by decide +kernel
theorem d_Mo_unlike_152 : decode prog_14_method_49_code 152 = .ok (.iload_n 3, 1) := by decide +kernel
theorem d_Mo_unlike_153 : decode prog_14_method_49_code 153 = .ok (.iload_n 2, 1) := by decide +kernel
theorem d_Mo_unlike_154 : decode prog_14_method_49_code 154 = .ok (.iload_n 2, 1) := by decide +kernel
theorem d_Mo_unlike_155 : decode prog_14_method_49_code 155 = .ok (.imul, 1) := by decide +kernel
theorem d_Mo_unlike_156 : decode prog_14_method_49_code 156 = .ok (.if_icmp .ge 212, 3) := by decide +kernel
theorem d_Mo_unlike_159 : decode prog_14_method_49_code 159 = .ok (.aload_n 0, 1) := by decide +kernel
theorem d_Mo_unlike_160 : decode prog_14_method_49_code 160 = .ok (.getfield 80, 3) := by decide +kernel
theorem d_Mo_unlike_163 : decode prog_14_method_49_code 163 = .ok (.iload_n 3, 1) := by decide +kernel
theorem d_Mo_unlike_164 : decode prog_14_method_49_code 164 = .ok (.baload, 1) := by decide +kernel
theorem d_Mo_unlike_165 : decode prog_14_method_49_code 165 = .ok (.ifCond .ne 197, 3) := by decide +kernel
theorem d_Mo_unlike_168 : decode prog_14_method_49_code 168 = .ok (.aload_n 0, 1) := by decide +kernel
theorem d_Mo_unlike_169 : decode prog_14_method_49_code 169 = .ok (.aload_n 0, 1) := by decide +kernel
theorem d_Mo_unlike_170 : decode prog_14_method_49_code 170 = .ok (.getfield 62, 3) := by decide +kernel
theorem d_Mo_unlike_173 : decode prog_14_method_49_code 173 = .ok (.bipush 14, 2) := by decide +kernel
theorem d_Mo_unlike_175 : decode prog_14_method_49_code 175 = .ok (.iload_n 3, 1) := by decide +kernel
theorem d_Mo_unlike_176 : decode prog_14_method_49_code 176 = .ok (.iload_n 2, 1) := by decide +kernel
theorem d_Mo_unlike_177 : decode prog_14_method_49_code 177 = .ok (.idiv, 1) := by decide +kernel
theorem d_Mo_unlike_178 : decode prog_14_method_49_code 178 = .ok (.imul, 1) := by decide +kernel
theorem d_Mo_unlike_179 : decode prog_14_method_49_code 179 = .ok (.aload_n 0, 1) := by decide +kernel
theorem d_Mo_unlike_180 : decode prog_14_method_49_code 180 = .ok (.getfield 62, 3) := by decide +kernel
theorem d_Mo_unlike_183 : decode prog_14_method_49_code 183 = .ok (.bipush 14, 2) := by decide +kernel
theorem d_Mo_unlike_185 : decode prog_14_method_49_code 185 = .ok (.iload_n 3, 1) := by decide +kernel
theorem d_Mo_unlike_186 : decode prog_14_method_49_code 186 = .ok (.iload_n 2, 1) := by decide +kernel
theorem d_Mo_unlike_187 : decode prog_14_method_49_code 187 = .ok (.irem, 1) := by decide +kernel
theorem d_Mo_unlike_188 : decode prog_14_method_49_code 188 = .ok (.imul, 1) := by decide +kernel
theorem d_Mo_unlike_189 : decode prog_14_method_49_code 189 = .ok (.iload_n 1, 1) := by decide +kernel
theorem d_Mo_unlike_190 : decode prog_14_method_49_code 190 = .ok (.invokevirtual 126, 3) := by decide +kernel
theorem d_Mo_unlike_193 : decode prog_14_method_49_code 193 = .ok (.iconst 1, 1) := by decide +kernel
theorem d_Mo_unlike_194 : decode prog_14_method_49_code 194 = .ok (.if_icmp .ne 168, 3) := by decide +kernel
theorem d_Mo_unlike_197 : decode prog_14_method_49_code 197 = .ok (.aload_n 0, 1) := by decide +kernel
theorem d_Mo_unlike_198 : decode prog_14_method_49_code 198 = .ok (.getfield 71, 3) := by decide +kernel
theorem d_Mo_unlike_201 : decode prog_14_method_49_code 201 = .ok (.iload_n 1, 1) := by decide +kernel
theorem d_Mo_unlike_202 : decode prog_14_method_49_code 202 = .ok (.dup2, 1) := by decide +kernel
theorem d_Mo_unlike_203 : decode prog_14_method_49_code 203 = .ok (.iaload, 1) := by decide +kernel
theorem d_Mo_unlike_204 : decode prog_14_method_49_code 204 = .ok (.iconst 1, 1) := by decide +kernel
theorem d_Mo_unlike_205 : decode prog_14_method_49_code 205 = .ok (.iadd, 1) := by decide +kernel
theorem d_Mo_unlike_206 : decode prog_14_method_49_code 206 = .ok (.iastore, 1) := by decide +kernel
theorem d_Mo_unlike_207 : decode prog_14_method_49_code 207 = .ok (.aload_n 0, 1) := by decide +kernel
theorem d_Mo_unlike_208 : decode prog_14_method_49_code 208 = .ok (.getfield 80, 3) := by decide +kernel
theorem d_Mo_unlike_211 : decode prog_14_method_49_code 211 = .ok (.iload_n 3, 1) := by decide +kernel
theorem d_Mo_unlike_212 : decode prog_14_method_49_code 212 = .ok (.iconst 1, 1) := by decide +kernel
theorem d_Mo_unlike_213 : decode prog_14_method_49_code 213 = .ok (.bastore, 1) := by decide +kernel
theorem d_Mo_unlike_214 : decode prog_14_method_49_code 214 = .ok (.aload_n 0, 1) := by decide +kernel
theorem d_Mo_unlike_215 : decode prog_14_method_49_code 215 = .ok (.getfield 89, 3) := by decide +kernel
theorem d_Mo_unlike_218 : decode prog_14_method_49_code 218 = .ok (.iconst 0, 1) := by decide +kernel
theorem d_Mo_unlike_219 : decode prog_14_method_49_code 219 = .ok (.iload_n 3, 1) := by decide +kernel
theorem d_Mo_unlike_220 : decode prog_14_method_49_code 220 = .ok (.iastore, 1) := by decide +kernel
theorem d_Mo_unlike_221 : decode prog_14_method_49_code 221 = .ok (.iconst 1, 1) := by decide +kernel
theorem d_Mo_unlike_222 : decode prog_14_method_49_code 222 = .ok (.istore 4, 2) := by decide +kernel
theorem d_Mo_unlike_224 : decode prog_14_method_49_code 224 = .ok (.iload 4, 2) := by decide +kernel
theorem d_Mo_unlike_226 : decode prog_14_method_49_code 226 = .ok (.ifCond .le 136, 3) := by decide +kernel
theorem d_Mo_unlike_229 : decode prog_14_method_49_code 229 = .ok (.iinc 4 (-1), 3) := by decide +kernel
theorem d_Mo_unlike_232 : decode prog_14_method_49_code 232 = .ok (.aload_n 0, 1) := by decide +kernel
theorem d_Mo_unlike_233 : decode prog_14_method_49_code 233 = .ok (.getfield 89, 3) := by decide +kernel
theorem d_Mo_unlike_236 : decode prog_14_method_49_code 236 = .ok (.iload 4, 2) := by decide +kernel
theorem d_Mo_unlike_238 : decode prog_14_method_49_code 238 = .ok (.iaload, 1) := by decide +kernel
theorem d_Mo_unlike_239 : decode prog_14_method_49_code 239 = .ok (.iload_n 2, 1) := by decide +kernel
theorem d_Mo_unlike_240 : decode prog_14_method_49_code 240 = .ok (.idiv, 1) := by decide +kernel
theorem d_Mo_unlike_241 : decode prog_14_method_49_code 241 = .ok (.istore 5, 2) := by decide +kernel
theorem d_Mo_unlike_243 : decode prog_14_method_49_code 243 = .ok (.aload_n 0, 1) := by decide +kernel
theorem d_Mo_unlike_244 : decode prog_14_method_49_code 244 = .ok (.getfield 89, 3) := by decide +kernel
theorem d_Mo_unlike_247 : decode prog_14_method_49_code 247 = .ok (.iload 4, 2) := by decide +kernel
theorem d_Mo_unlike_249 : decode prog_14_method_49_code 249 = .ok (.iaload, 1) := by decide +kernel
theorem d_Mo_unlike_250 : decode prog_14_method_49_code 250 = .ok (.iload_n 2, 1) := by decide +kernel
theorem d_Mo_unlike_251 : decode prog_14_method_49_code 251 = .ok (.irem, 1) := by decide +kernel
theorem d_Mo_unlike_252 : decode prog_14_method_49_code 252 = .ok (.istore 6, 2) := by decide +kernel
theorem d_Mo_unlike_254 : decode prog_14_method_49_code 254 = .ok (.iconst 0, 1) := by decide +kernel
theorem d_Mo_unlike_255 : decode prog_14_method_49_code 255 = .ok (.istore 7, 2) := by decide +kernel
theorem d_Mo_unlike_257 : decode prog_14_method_49_code 257 = .ok (.iload 7, 2) := by decide +kernel
theorem d_Mo_unlike_259 : decode prog_14_method_49_code 259 = .ok (.iconst 3, 1) := by decide +kernel
theorem d_Mo_unlike_260 : decode prog_14_method_49_code 260 = .ok (.if_icmp .ge 99, 3) := by decide +kernel
theorem d_Mo_unlike_263 : decode prog_14_method_49_code 263 = .ok (.iload 7, 2) := by decide +kernel
theorem d_Mo_unlike_265 : decode prog_14_method_49_code 265 = .ok (.ifCond .ne 23, 3) := by decide +kernel
theorem d_Mo_unlike_268 : decode prog_14_method_49_code 268 = .ok (.iload_n 2, 1) := by decide +kernel
theorem d_Mo_unlike_269 : decode prog_14_method_49_code 269 = .ok (.aload_n 0, 1) := by decide +kernel
theorem d_Mo_unlike_270 : decode prog_14_method_49_code 270 = .ok (.getfield 83, 3) := by decide +kernel
theorem d_Mo_unlike_273 : decode prog_14_method_49_code 273 = .ok (.iload 5, 2) := by decide +kernel
theorem d_Mo_unlike_275 : decode prog_14_method_49_code 275 = .ok (.iaload, 1) := by decide +kernel
theorem d_Mo_unlike_276 : decode prog_14_method_49_code 276 = .ok (.imul, 1) := by decide +kernel
theorem d_Mo_unlike_277 : decode prog_14_method_49_code 277 = .ok (.aload_n 0, 1) := by decide +kernel
theorem d_Mo_unlike_278 : decode prog_14_method_49_code 278 = .ok (.getfield 83, 3) := by decide +kernel
theorem d_Mo_unlike_281 : decode prog_14_method_49_code 281 = .ok (.iload 6, 2) := by decide +kernel
theorem d_Mo_unlike_283 : decode prog_14_method_49_code 283 = .ok (.iaload, 1) := by decide +kernel
theorem d_Mo_unlike_284 : decode prog_14_method_49_code 284 = .ok (.iadd, 1) := by decide +kernel
theorem d_Mo_unlike_285 : decode prog_14_method_49_code 285 = .ok (.goto 36, 3) := by decide +kernel
theorem d_Mo_unlike_288 : decode prog_14_method_49_code 288 = .ok (.iload 7, 2) := by decide +kernel
theorem d_Mo_unlike_290 : decode prog_14_method_49_code 290 = .ok (.iconst 1, 1) := by decide +kernel
theorem d_Mo_unlike_291 : decode prog_14_method_49_code 291 = .ok (.if_icmp .ne 23, 3) := by decide +kernel
theorem d_Mo_unlike_294 : decode prog_14_method_49_code 294 = .ok (.iload_n 2, 1) := by decide +kernel
theorem d_Mo_unlike_295 : decode prog_14_method_49_code 295 = .ok (.aload_n 0, 1) := by decide +kernel
theorem d_Mo_unlike_296 : decode prog_14_method_49_code 296 = .ok (.getfield 86, 3) := by decide +kernel
theorem d_Mo_unlike_299 : decode prog_14_method_49_code 299 = .ok (.iload 5, 2) := by decide +kernel
theorem d_Mo_unlike_301 : decode prog_14_method_49_code 301 = .ok (.iaload, 1) := by decide +kernel
theorem d_Mo_unlike_302 : decode prog_14_method_49_code 302 = .ok (.imul, 1) := by decide +kernel
theorem d_Mo_unlike_303 : decode prog_14_method_49_code 303 = .ok (.aload_n 0, 1) := by decide +kernel
theorem d_Mo_unlike_304 : decode prog_14_method_49_code 304 = .ok (.getfield 86, 3) := by decide +kernel
theorem d_Mo_unlike_307 : decode prog_14_method_49_code 307 = .ok (.iload 6, 2) := by decide +kernel
theorem d_Mo_unlike_309 : decode prog_14_method_49_code 309 = .ok (.iaload, 1) := by decide +kernel
theorem d_Mo_unlike_310 : decode prog_14_method_49_code 310 = .ok (.iadd, 1) := by decide +kernel
theorem d_Mo_unlike_311 : decode prog_14_method_49_code 311 = .ok (.goto 10, 3) := by decide +kernel
theorem d_Mo_unlike_314 : decode prog_14_method_49_code 314 = .ok (.iload_n 2, 1) := by decide +kernel
theorem d_Mo_unlike_315 : decode prog_14_method_49_code 315 = .ok (.iload 6, 2) := by decide +kernel
theorem d_Mo_unlike_317 : decode prog_14_method_49_code 317 = .ok (.imul, 1) := by decide +kernel
theorem d_Mo_unlike_318 : decode prog_14_method_49_code 318 = .ok (.iload 5, 2) := by decide +kernel
theorem d_Mo_unlike_320 : decode prog_14_method_49_code 320 = .ok (.iadd, 1) := by decide +kernel
theorem d_Mo_unlike_321 : decode prog_14_method_49_code 321 = .ok (.istore 8, 2) := by decide +kernel
theorem d_Mo_unlike_323 : decode prog_14_method_49_code 323 = .ok (.aload_n 0, 1) := by decide +kernel
theorem d_Mo_unlike_324 : decode prog_14_method_49_code 324 = .ok (.getfield 80, 3) := by decide +kernel
theorem d_Mo_unlike_327 : decode prog_14_method_49_code 327 = .ok (.iload 8, 2) := by decide +kernel
theorem d_Mo_unlike_329 : decode prog_14_method_49_code 329 = .ok (.baload, 1) := by decide +kernel
theorem d_Mo_unlike_330 : decode prog_14_method_49_code 330 = .ok (.ifCond .ne 23, 3) := by decide +kernel
theorem d_Mo_unlike_333 : decode prog_14_method_49_code 333 = .ok (.aload_n 0, 1) := by decide +kernel
theorem d_Mo_unlike_334 : decode prog_14_method_49_code 334 = .ok (.getfield 80, 3) := by decide +kernel
theorem d_Mo_unlike_337 : decode prog_14_method_49_code 337 = .ok (.iload 8, 2) := by decide +kernel
theorem d_Mo_unlike_339 : decode prog_14_method_49_code 339 = .ok (.iconst 1, 1) := by decide +kernel
theorem d_Mo_unlike_340 : decode prog_14_method_49_code 340 = .ok (.bastore, 1) := by decide +kernel
theorem d_Mo_unlike_341 : decode prog_14_method_49_code 341 = .ok (.aload_n 0, 1) := by decide +kernel
theorem d_Mo_unlike_342 : decode prog_14_method_49_code 342 = .ok (.getfield 89, 3) := by decide +kernel
theorem d_Mo_unlike_345 : decode prog_14_method_49_code 345 = .ok (.iload 4, 2) := by decide +kernel
theorem d_Mo_unlike_347 : decode prog_14_method_49_code 347 = .ok (.iload 8, 2) := by decide +kernel
theorem d_Mo_unlike_349 : decode prog_14_method_49_code 349 = .ok (.iastore, 1) := by decide +kernel
theorem d_Mo_unlike_350 : decode prog_14_method_49_code 350 = .ok (.iinc 4 1, 3) := by decide +kernel
theorem d_Mo_unlike_353 : decode prog_14_method_49_code 353 = .ok (.iinc 7 1, 3) := by decide +kernel
theorem d_Mo_unlike_356 : decode prog_14_method_49_code 356 = .ok (.goto (-99), 3) := by decide +kernel
theorem d_Mo_unlike_359 : decode prog_14_method_49_code 359 = .ok (.goto (-135), 3) := by decide +kernel
theorem d_Mo_unlike_362 : decode prog_14_method_49_code 362 = .ok (.iinc 3 1, 3) := by decide +kernel
theorem d_Mo_unlike_365 : decode prog_14_method_49_code 365 = .ok (.goto (-213), 3) := by decide +kernel
theorem d_Mo_unlike_368 : decode prog_14_method_49_code 368 = .ok (.aload_n 0, 1) := by decide +kernel
theorem d_Mo_unlike_369 : decode prog_14_method_49_code 369 = .ok (.getfield 71, 3) := by decide +kernel
theorem d_Mo_unlike_372 : decode prog_14_method_49_code 372 = .ok (.iload_n 1, 1) := by decide +kernel
theorem d_Mo_unlike_373 : decode prog_14_method_49_code 373 = .ok (.iaload, 1) := by decide +kernel
theorem d_Mo_unlike_374 : decode prog_14_method_49_code 374 = .ok (.ireturn, 1) := by decide +kernel
theorem d_Mo_sum_0 : decode prog_14_method_50_code 0 = .ok (.iload_n 1, 1) := by decide +kernel
theorem d_Mo_sum_1 : decode prog_14_method_50_code 1 = .ok (.i2l, 1) := by decide +kernel
theorem d_Mo_sum_2 : decode prog_14_method_50_code 2 = .ok (.lconst 1, 1) := by decide +kernel
theorem d_Mo_sum_3 : decode prog_14_method_50_code 3 = .ok (.ldc2_w 100, 3) := by decide +kernel
theorem d_Mo_sum_6 : decode prog_14_method_50_code 6 = .ok (.invokestatic 102, 3) := by decide +kernel
theorem d_Mo_sum_9 : decode prog_14_method_50_code 9 = .ok (.ifCond .eq 17, 3) := by decide +kernel
theorem d_Mo_sum_12 : decode prog_14_method_50_code 12 = .ok (.iload_n 2, 1) := by decide +kernel
theorem d_Mo_sum_13 : decode prog_14_method_50_code 13 = .ok (.i2l, 1) := by decide +kernel
theorem d_Mo_sum_14 : decode prog_14_method_50_code 14 = .ok (.ldc2_w 221, 3) := by decide +kernel
theorem d_Mo_sum_17 : decode prog_14_method_50_code 17 = .ok (.ldc2_w 120, 3) := by decide +kernel
theorem d_Mo_sum_20 : decode prog_14_method_50_code 20 = .ok (.invokestatic 102, 3) := by decide +kernel
theorem d_Mo_sum_23 : decode prog_14_method_50_code 23 = .ok (.ifCond .ne 7, 3) := by decide +kernel
theorem d_Mo_sum_26 : decode prog_14_method_50_code 26 = .ok (.ldc2_w 223, 3) := by decide +kernel
theorem d_Mo_sum_29 : decode prog_14_method_50_code 29 = .ok (.lreturn, 1) := by decide +kernel
theorem d_Mo_sum_30 : decode prog_14_method_50_code 30 = .ok (.aload_n 0, 1) := by decide +kernel
theorem d_Mo_sum_31 : decode prog_14_method_50_code 31 = .ok (.iload_n 1, 1) := by decide +kernel
theorem d_Mo_sum_32 : decode prog_14_method_50_code 32 = .ok (.invokevirtual 216, 3) := by decide +kernel
theorem d_Mo_sum_35 : decode prog_14_method_50_code 35 = .ok (.lconst 0, 1) := by decide +kernel
theorem d_Mo_sum_36 : decode prog_14_method_50_code 36 = .ok (.lstore_n 3, 1) := by decide +kernel
theorem d_Mo_sum_37 : decode prog_14_method_50_code 37 = .ok (.lconst 1, 1) := by decide +kernel
theorem d_Mo_sum_38 : decode prog_14_method_50_code 38 = .ok (.lstore 5, 2) := by decide +kernel
theorem d_Mo_sum_40 : decode prog_14_method_50_code 40 = .ok (.iconst 1, 1) := by decide +kernel
theorem d_Mo_sum_41 : decode prog_14_method_50_code 41 = .ok (.istore 7, 2) := by decide +kernel
theorem d_Mo_sum_43 : decode prog_14_method_50_code 43 = .ok (.iload 7, 2) := by decide +kernel
theorem d_Mo_sum_45 : decode prog_14_method_50_code 45 = .ok (.iload_n 1, 1) := by decide +kernel
theorem d_Mo_sum_46 : decode prog_14_method_50_code 46 = .ok (.if_icmp .gt 35, 3) := by decide +kernel
theorem d_Mo_sum_49 : decode prog_14_method_50_code 49 = .ok (.lload 5, 2) := by decide +kernel
theorem d_Mo_sum_51 : decode prog_14_method_50_code 51 = .ok (.iload_n 2, 1) := by decide +kernel
theorem d_Mo_sum_52 : decode prog_14_method_50_code 52 = .ok (.i2l, 1) := by decide +kernel
theorem d_Mo_sum_53 : decode prog_14_method_50_code 53 = .ok (.lmul, 1) := by decide +kernel
theorem d_Mo_sum_54 : decode prog_14_method_50_code 54 = .ok (.lstore 5, 2) := by decide +kernel
theorem d_Mo_sum_56 : decode prog_14_method_50_code 56 = .ok (.lload_n 3, 1) := by decide +kernel
theorem d_Mo_sum_57 : decode prog_14_method_50_code 57 = .ok (.lload 5, 2) := by decide +kernel
theorem d_Mo_sum_59 : decode prog_14_method_50_code 59 = .ok (.aload_n 0, 1) := by decide +kernel
theorem d_Mo_sum_60 : decode prog_14_method_50_code 60 = .ok (.getfield 65, 3) := by decide +kernel
theorem d_Mo_sum_63 : decode prog_14_method_50_code 63 = .ok (.bipush 8, 2) := by decide +kernel
theorem d_Mo_sum_65 : decode prog_14_method_50_code 65 = .ok (.iload_n 1, 1) := by decide +kernel
theorem d_Mo_sum_66 : decode prog_14_method_50_code 66 = .ok (.imul, 1) := by decide +kernel
theorem d_Mo_sum_67 : decode prog_14_method_50_code 67 = .ok (.iload 7, 2) := by decide +kernel
theorem d_Mo_sum_69 : decode prog_14_method_50_code 69 = .ok (.iadd, 1) := by decide +kernel
theorem d_Mo_sum_70 : decode prog_14_method_50_code 70 = .ok (.iaload, 1) := by decide +kernel
theorem d_Mo_sum_71 : decode prog_14_method_50_code 71 = .ok (.i2l, 1) := by decide +kernel
theorem d_Mo_sum_72 : decode prog_14_method_50_code 72 = .ok (.lmul, 1) := by decide +kernel
theorem d_Mo_sum_73 : decode prog_14_method_50_code 73 = .ok (.ladd, 1) := by decide +kernel
theorem d_Mo_sum_74 : decode prog_14_method_50_code 74 = .ok (.lstore_n 3, 1) := by decide +kernel
theorem d_Mo_sum_75 : decode prog_14_method_50_code 75 = .ok (.iinc 7 1, 3) := by decide +kernel
theorem d_Mo_sum_78 : decode prog_14_method_50_code 78 = .ok (.goto (-35), 3) := by decide +kernel
theorem d_Mo_sum_81 : decode prog_14_method_50_code 81 = .ok (.lload_n 3, 1) := by decide +kernel
theorem d_Mo_sum_82 : decode prog_14_method_50_code 82 = .ok (.lreturn, 1) := by decide +kernel
theorem d_Mo_stamp_0 : decode prog_14_method_51_code 0 = .ok (.iload_n 1, 1) := by decide +kernel
theorem d_Mo_stamp_1 : decode prog_14_method_51_code 1 = .ok (.invokestatic 152, 3) := by decide +kernel
theorem d_Mo_stamp_4 : decode prog_14_method_51_code 4 = .ok (.ifCond .ne 6, 3) := by decide +kernel
theorem d_Mo_stamp_7 : decode prog_14_method_51_code 7 = .ok (.ldc 112, 2) := by decide +kernel
theorem d_Mo_stamp_9 : decode prog_14_method_51_code 9 = .ok (.ireturn, 1) := by decide +kernel
theorem d_Mo_stamp_10 : decode prog_14_method_51_code 10 = .ok (.aload_n 0, 1) := by decide +kernel
theorem d_Mo_stamp_11 : decode prog_14_method_51_code 11 = .ok (.iload_n 1, 1) := by decide +kernel
theorem d_Mo_stamp_12 : decode prog_14_method_51_code 12 = .ok (.bipush 7, 2) := by decide +kernel
theorem d_Mo_stamp_14 : decode prog_14_method_51_code 14 = .ok (.invokevirtual 165, 3) := by decide +kernel
theorem d_Mo_stamp_17 : decode prog_14_method_51_code 17 = .ok (.istore_n 3, 1) := by decide +kernel
theorem d_Mo_stamp_18 : decode prog_14_method_51_code 18 = .ok (.iload_n 3, 1) := by decide +kernel
theorem d_Mo_stamp_19 : decode prog_14_method_51_code 19 = .ok (.ifCond .eq 5, 3) := by decide +kernel
theorem d_Mo_stamp_22 : decode prog_14_method_51_code 22 = .ok (.iload_n 3, 1) := by decide +kernel
theorem d_Mo_stamp_23 : decode prog_14_method_51_code 23 = .ok (.ireturn, 1) := by decide +kernel
theorem d_Mo_stamp_24 : decode prog_14_method_51_code 24 = .ok (.iload_n 2, 1) := by decide +kernel
theorem d_Mo_stamp_25 : decode prog_14_method_51_code 25 = .ok (.i2l, 1) := by decide +kernel
theorem d_Mo_stamp_26 : decode prog_14_method_51_code 26 = .ok (.lconst 0, 1) := by decide +kernel
theorem d_Mo_stamp_27 : decode prog_14_method_51_code 27 = .ok (.aload_n 0, 1) := by decide +kernel
theorem d_Mo_stamp_28 : decode prog_14_method_51_code 28 = .ok (.getfield 25, 3) := by decide +kernel
theorem d_Mo_stamp_31 : decode prog_14_method_51_code 31 = .ok (.iload_n 1, 1) := by decide +kernel
theorem d_Mo_stamp_32 : decode prog_14_method_51_code 32 = .ok (.iaload, 1) := by decide +kernel
theorem d_Mo_stamp_33 : decode prog_14_method_51_code 33 = .ok (.iconst 1, 1) := by decide +kernel
theorem d_Mo_stamp_34 : decode prog_14_method_51_code 34 = .ok (.isub, 1) := by decide +kernel
theorem d_Mo_stamp_35 : decode prog_14_method_51_code 35 = .ok (.i2l, 1) := by decide +kernel
theorem d_Mo_stamp_36 : decode prog_14_method_51_code 36 = .ok (.invokestatic 102, 3) := by decide +kernel
theorem d_Mo_stamp_39 : decode prog_14_method_51_code 39 = .ok (.ifCond .eq 21, 3) := by decide +kernel
theorem d_Mo_stamp_42 : decode prog_14_method_51_code 42 = .ok (.aload_n 0, 1) := by decide +kernel
theorem d_Mo_stamp_43 : decode prog_14_method_51_code 43 = .ok (.aload_n 0, 1) := by decide +kernel
theorem d_Mo_stamp_44 : decode prog_14_method_51_code 44 = .ok (.getfield 28, 3) := by decide +kernel
theorem d_Mo_stamp_47 : decode prog_14_method_51_code 47 = .ok (.bipush 40, 2) := by decide +kernel
theorem d_Mo_stamp_49 : decode prog_14_method_51_code 49 = .ok (.iload_n 1, 1) := by decide +kernel
theorem d_Mo_stamp_50 : decode prog_14_method_51_code 50 = .ok (.imul, 1) := by decide +kernel
theorem d_Mo_stamp_51 : decode prog_14_method_51_code 51 = .ok (.iload_n 2, 1) := by decide +kernel
theorem d_Mo_stamp_52 : decode prog_14_method_51_code 52 = .ok (.iadd, 1) := by decide +kernel
theorem d_Mo_stamp_53 : decode prog_14_method_51_code 53 = .ok (.iaload, 1) := by decide +kernel
theorem d_Mo_stamp_54 : decode prog_14_method_51_code 54 = .ok (.invokevirtual 117, 3) := by decide +kernel
theorem d_Mo_stamp_57 : decode prog_14_method_51_code 57 = .ok (.goto 5, 3) := by decide +kernel
theorem d_Mo_stamp_60 : decode prog_14_method_51_code 60 = .ok (.ldc 112, 2) := by decide +kernel
theorem d_Mo_stamp_62 : decode prog_14_method_51_code 62 = .ok (.ireturn, 1) := by decide +kernel
theorem d_Mo_clash_0 : decode prog_14_method_52_code 0 = .ok (.iload_n 1, 1) := by decide +kernel
theorem d_Mo_clash_1 : decode prog_14_method_52_code 1 = .ok (.invokestatic 152, 3) := by decide +kernel
theorem d_Mo_clash_4 : decode prog_14_method_52_code 4 = .ok (.ifCond .eq 13, 3) := by decide +kernel
theorem d_Mo_clash_7 : decode prog_14_method_52_code 7 = .ok (.iload_n 2, 1) := by decide +kernel
theorem d_Mo_clash_8 : decode prog_14_method_52_code 8 = .ok (.i2l, 1) := by decide +kernel
theorem d_Mo_clash_9 : decode prog_14_method_52_code 9 = .ok (.lconst 0, 1) := by decide +kernel
theorem d_Mo_clash_10 : decode prog_14_method_52_code 10 = .ok (.lconst 1, 1) := by decide +kernel
theorem d_Mo_clash_11 : decode prog_14_method_52_code 11 = .ok (.invokestatic 102, 3) := by decide +kernel
theorem d_Mo_clash_14 : decode prog_14_method_52_code 14 = .ok (.ifCond .ne 6, 3) := by decide +kernel
theorem d_Mo_clash_17 : decode prog_14_method_52_code 17 = .ok (.ldc 112, 2) := by decide +kernel
theorem d_Mo_clash_19 : decode prog_14_method_52_code 19 = .ok (.ireturn, 1) := by decide +kernel
theorem d_Mo_clash_20 : decode prog_14_method_52_code 20 = .ok (.aload_n 0, 1) := by decide +kernel
theorem d_Mo_clash_21 : decode prog_14_method_52_code 21 = .ok (.iload_n 1, 1) := by decide +kernel
theorem d_Mo_clash_22 : decode prog_14_method_52_code 22 = .ok (.bipush 7, 2) := by decide +kernel
theorem d_Mo_clash_24 : decode prog_14_method_52_code 24 = .ok (.invokevirtual 165, 3) := by decide +kernel
theorem d_Mo_clash_27 : decode prog_14_method_52_code 27 = .ok (.istore_n 3, 1) := by decide +kernel
theorem d_Mo_clash_28 : decode prog_14_method_52_code 28 = .ok (.iload_n 3, 1) := by decide +kernel
theorem d_Mo_clash_29 : decode prog_14_method_52_code 29 = .ok (.ifCond .eq 5, 3) := by decide +kernel
theorem d_Mo_clash_32 : decode prog_14_method_52_code 32 = .ok (.iload_n 3, 1) := by decide +kernel
theorem d_Mo_clash_33 : decode prog_14_method_52_code 33 = .ok (.ireturn, 1) := by decide +kernel
theorem d_Mo_clash_34 : decode prog_14_method_52_code 34 = .ok (.aload_n 0, 1) := by decide +kernel
theorem d_Mo_clash_35 : decode prog_14_method_52_code 35 = .ok (.aload_n 0, 1) := by decide +kernel
theorem d_Mo_clash_36 : decode prog_14_method_52_code 36 = .ok (.getfield 28, 3) := by decide +kernel
theorem d_Mo_clash_39 : decode prog_14_method_52_code 39 = .ok (.bipush 40, 2) := by decide +kernel
theorem d_Mo_clash_41 : decode prog_14_method_52_code 41 = .ok (.iload_n 1, 1) := by decide +kernel
theorem d_Mo_clash_42 : decode prog_14_method_52_code 42 = .ok (.imul, 1) := by decide +kernel
theorem d_Mo_clash_43 : decode prog_14_method_52_code 43 = .ok (.aload_n 0, 1) := by decide +kernel
theorem d_Mo_clash_44 : decode prog_14_method_52_code 44 = .ok (.getfield 25, 3) := by decide +kernel
theorem d_Mo_clash_47 : decode prog_14_method_52_code 47 = .ok (.iload_n 1, 1) := by decide +kernel
theorem d_Mo_clash_48 : decode prog_14_method_52_code 48 = .ok (.iaload, 1) := by decide +kernel
theorem d_Mo_clash_49 : decode prog_14_method_52_code 49 = .ok (.invokevirtual 144, 3) := by decide +kernel
theorem d_Mo_clash_52 : decode prog_14_method_52_code 52 = .ok (.istore 4, 2) := by decide +kernel
theorem d_Mo_clash_54 : decode prog_14_method_52_code 54 = .ok (.aload_n 0, 1) := by decide +kernel
theorem d_Mo_clash_55 : decode prog_14_method_52_code 55 = .ok (.iload_n 2, 1) := by decide +kernel
theorem d_Mo_clash_56 : decode prog_14_method_52_code 56 = .ok (.ifCond .ne 10, 3) := by decide +kernel
theorem d_Mo_clash_59 : decode prog_14_method_52_code 59 = .ok (.aload_n 0, 1) := by decide +kernel
theorem d_Mo_clash_60 : decode prog_14_method_52_code 60 = .ok (.getfield 130, 3) := by decide +kernel
theorem d_Mo_clash_63 : decode prog_14_method_52_code 63 = .ok (.goto 7, 3) := by decide +kernel
theorem d_Mo_clash_66 : decode prog_14_method_52_code 66 = .ok (.aload_n 0, 1) := by decide +kernel
theorem d_Mo_clash_67 : decode prog_14_method_52_code 67 = .ok (.getfield 133, 3) := by decide +kernel
theorem d_Mo_clash_70 : decode prog_14_method_52_code 70 = .ok (.invokevirtual 117, 3) := by decide +kernel
theorem d_Mo_clash_73 : decode prog_14_method_52_code 73 = .ok (.ireturn, 1) := by decide +kernel
theorem d_Mo_folds_0 : decode prog_14_method_55_code 0 = .ok (.iload_n 1, 1) := by decide +kernel
theorem d_Mo_folds_1 : decode prog_14_method_55_code 1 = .ok (.i2l, 1) := by decide +kernel
theorem d_Mo_folds_2 : decode prog_14_method_55_code 2 = .ok (.lconst 1, 1) := by decide +kernel
theorem d_Mo_folds_3 : decode prog_14_method_55_code 3 = .ok (.ldc2_w 188, 3) := by decide +kernel
theorem d_Mo_folds_6 : decode prog_14_method_55_code 6 = .ok (.invokestatic 102, 3) := by decide +kernel
theorem d_Mo_folds_9 : decode prog_14_method_55_code 9 = .ok (.ifCond .ne 6, 3) := by decide +kernel
theorem d_Mo_folds_12 : decode prog_14_method_55_code 12 = .ok (.ldc 112, 2) := by decide +kernel
theorem d_Mo_folds_14 : decode prog_14_method_55_code 14 = .ok (.ireturn, 1) := by decide +kernel
theorem d_Mo_folds_15 : decode prog_14_method_55_code 15 = .ok (.aload_n 0, 1) := by decide +kernel
theorem d_Mo_folds_16 : decode prog_14_method_55_code 16 = .ok (.getfield 74, 3) := by decide +kernel
theorem d_Mo_folds_19 : decode prog_14_method_55_code 19 = .ok (.iload_n 1, 1) := by decide +kernel
theorem d_Mo_folds_20 : decode prog_14_method_55_code 20 = .ok (.iaload, 1) := by decide +kernel
theorem d_Mo_folds_21 : decode prog_14_method_55_code 21 = .ok (.ifCond .ne 15, 3) := by decide +kernel
theorem d_Mo_folds_24 : decode prog_14_method_55_code 24 = .ok (.aload_n 0, 1) := by decide +kernel
theorem d_Mo_folds_25 : decode prog_14_method_55_code 25 = .ok (.getfield 74, 3) := by decide +kernel
theorem d_Mo_folds_28 : decode prog_14_method_55_code 28 = .ok (.iload_n 1, 1) := by decide +kernel
theorem d_Mo_folds_29 : decode prog_14_method_55_code 29 = .ok (.aload_n 0, 1) := by decide +kernel
theorem d_Mo_folds_30 : decode prog_14_method_55_code 30 = .ok (.iload_n 1, 1) := by decide +kernel
theorem d_Mo_folds_31 : decode prog_14_method_55_code 31 = .ok (.iconst (-1), 1) := by decide +kernel
theorem d_Mo_folds_32 : decode prog_14_method_55_code 32 = .ok (.invokevirtual 228, 3) := by decide +kernel
theorem d_Mo_folds_35 : decode prog_14_method_55_code 35 = .ok (.iastore, 1) := by decide +kernel
theorem d_Mo_folds_36 : decode prog_14_method_55_code 36 = .ok (.aload_n 0, 1) := by decide +kernel
theorem d_Mo_folds_37 : decode prog_14_method_55_code 37 = .ok (.getfield 74, 3) := by decide +kernel
theorem d_Mo_folds_40 : decode prog_14_method_55_code 40 = .ok (.iload_n 1, 1) := by decide +kernel
theorem d_Mo_folds_41 : decode prog_14_method_55_code 41 = .ok (.iaload, 1) := by decide +kernel
theorem d_Mo_folds_42 : decode prog_14_method_55_code 42 = .ok (.ireturn, 1) := by decide +kernel
theorem d_Mo_goThrough_0 : decode prog_14_method_54_code 0 = .ok (.iconst 0, 1) := by decide +kernel
theorem d_Mo_goThrough_1 : decode prog_14_method_54_code 1 = .ok (.istore_n 3, 1) := by decide +kernel
theorem d_Mo_goThrough_2 : decode prog_14_method_54_code 2 = .ok (.iload_n 3, 1) := by decide +kernel
theorem d_Mo_goThrough_3 : decode prog_14_method_54_code 3 = .ok (.iload_n 1, 1) := by decide +kernel
theorem d_Mo_goThrough_4 : decode prog_14_method_54_code 4 = .ok (.if_icmp .ge 16, 3) := by decide +kernel
theorem d_Mo_goThrough_7 : decode prog_14_method_54_code 7 = .ok (.aload_n 0, 1) := by decide +kernel
theorem d_Mo_goThrough_8 : decode prog_14_method_54_code 8 = .ok (.getfield 92, 3) := by decide +kernel
theorem d_Mo_goThrough_11 : decode prog_14_method_54_code 11 = .ok (.iload_n 3, 1) := by decide +kernel
theorem d_Mo_goThrough_12 : decode prog_14_method_54_code 12 = .ok (.iload_n 3, 1) := by decide +kernel
theorem d_Mo_goThrough_13 : decode prog_14_method_54_code 13 = .ok (.iastore, 1) := by decide +kernel
theorem d_Mo_goThrough_14 : decode prog_14_method_54_code 14 = .ok (.iinc 3 1, 3) := by decide +kernel
theorem d_Mo_goThrough_17 : decode prog_14_method_54_code 17 = .ok (.goto (-15), 3) := by decide +kernel
theorem d_Mo_goThrough_20 : decode prog_14_method_54_code 20 = .ok (.iconst 0, 1) := by decide +kernel
theorem d_Mo_goThrough_21 : decode prog_14_method_54_code 21 = .ok (.istore_n 3, 1) := by decide +kernel
theorem d_Mo_goThrough_22 : decode prog_14_method_54_code 22 = .ok (.iconst 1, 1) := by decide +kernel
theorem d_Mo_goThrough_23 : decode prog_14_method_54_code 23 = .ok (.istore 4, 2) := by decide +kernel
theorem d_Mo_goThrough_25 : decode prog_14_method_54_code 25 = .ok (.iload 4, 2) := by decide +kernel
theorem d_Mo_goThrough_27 : decode prog_14_method_54_code 27 = .ok (.ifCond .eq 38, 3) := by decide +kernel
theorem d_Mo_goThrough_30 : decode prog_14_method_54_code 30 = .ok (.aload_n 0, 1) := by decide +kernel
theorem d_Mo_goThrough_31 : decode prog_14_method_54_code 31 = .ok (.aload_n 0, 1) := by decide +kernel
theorem d_Mo_goThrough_32 : decode prog_14_method_54_code 32 = .ok (.getfield 92, 3) := by decide +kernel
theorem d_Mo_goThrough_35 : decode prog_14_method_54_code 35 = .ok (.iconst 0, 1) := by decide +kernel
theorem d_Mo_goThrough_36 : decode prog_14_method_54_code 36 = .ok (.iload_n 1, 1) := by decide +kernel
theorem d_Mo_goThrough_37 : decode prog_14_method_54_code 37 = .ok (.invokevirtual 144, 3) := by decide +kernel
theorem d_Mo_goThrough_40 : decode prog_14_method_54_code 40 = .ok (.ifCond .eq 15, 3) := by decide +kernel
theorem d_Mo_goThrough_43 : decode prog_14_method_54_code 43 = .ok (.iload_n 3, 1) := by decide +kernel
theorem d_Mo_goThrough_44 : decode prog_14_method_54_code 44 = .ok (.iload_n 2, 1) := by decide +kernel
theorem d_Mo_goThrough_45 : decode prog_14_method_54_code 45 = .ok (.if_icmp .ne 7, 3) := by decide +kernel
theorem d_Mo_goThrough_48 : decode prog_14_method_54_code 48 = .ok (.iload_n 3, 1) := by decide +kernel
theorem d_Mo_goThrough_49 : decode prog_14_method_54_code 49 = .ok (.iconst 1, 1) := by decide +kernel
theorem d_Mo_goThrough_50 : decode prog_14_method_54_code 50 = .ok (.iadd, 1) := by decide +kernel
theorem d_Mo_goThrough_51 : decode prog_14_method_54_code 51 = .ok (.ireturn, 1) := by decide +kernel
theorem d_Mo_goThrough_52 : decode prog_14_method_54_code 52 = .ok (.iinc 3 1, 3) := by decide +kernel
theorem d_Mo_goThrough_55 : decode prog_14_method_54_code 55 = .ok (.aload_n 0, 1) := by decide +kernel
theorem d_Mo_goThrough_56 : decode prog_14_method_54_code 56 = .ok (.iload_n 1, 1) := by decide +kernel
theorem d_Mo_goThrough_57 : decode prog_14_method_54_code 57 = .ok (.invokevirtual 225, 3) := by decide +kernel
theorem d_Mo_goThrough_60 : decode prog_14_method_54_code 60 = .ok (.istore 4, 2) := by decide +kernel
theorem d_Mo_goThrough_62 : decode prog_14_method_54_code 62 = .ok (.goto (-37), 3) := by decide +kernel
theorem d_Mo_goThrough_65 : decode prog_14_method_54_code 65 = .ok (.iload_n 3, 1) := by decide +kernel
theorem d_Mo_goThrough_66 : decode prog_14_method_54_code 66 = .ok (.ireturn, 1) := by decide +kernel
theorem d_Mo_nextOrder_0 : decode prog_14_method_53_code 0 = .ok (.iload_n 1, 1) := by decide +kernel
theorem d_Mo_nextOrder_1 : decode prog_14_method_53_code 1 = .ok (.iconst 2, 1) := by decide +kernel
theorem d_Mo_nextOrder_2 : decode prog_14_method_53_code 2 = .ok (.isub, 1) := by decide +kernel
theorem d_Mo_nextOrder_3 : decode prog_14_method_53_code 3 = .ok (.istore_n 2, 1) := by decide +kernel
theorem d_Mo_nextOrder_4 : decode prog_14_method_53_code 4 = .ok (.iload_n 2, 1) := by decide +kernel
theorem d_Mo_nextOrder_5 : decode prog_14_method_53_code 5 = .ok (.ifCond .lt 26, 3) := by decide +kernel
theorem d_Mo_nextOrder_8 : decode prog_14_method_53_code 8 = .ok (.aload_n 0, 1) := by decide +kernel
theorem d_Mo_nextOrder_9 : decode prog_14_method_53_code 9 = .ok (.getfield 92, 3) := by decide +kernel
theorem d_Mo_nextOrder_12 : decode prog_14_method_53_code 12 = .ok (.iload_n 2, 1) := by decide +kernel
theorem d_Mo_nextOrder_13 : decode prog_14_method_53_code 13 = .ok (.iaload, 1) := by decide +kernel
theorem d_Mo_nextOrder_14 : decode prog_14_method_53_code 14 = .ok (.aload_n 0, 1) := by decide +kernel
theorem d_Mo_nextOrder_15 : decode prog_14_method_53_code 15 = .ok (.getfield 92, 3) := by decide +kernel
theorem d_Mo_nextOrder_18 : decode prog_14_method_53_code 18 = .ok (.iload_n 2, 1) := by decide +kernel
theorem d_Mo_nextOrder_19 : decode prog_14_method_53_code 19 = .ok (.iconst 1, 1) := by decide +kernel
theorem d_Mo_nextOrder_20 : decode prog_14_method_53_code 20 = .ok (.iadd, 1) := by decide +kernel
theorem d_Mo_nextOrder_21 : decode prog_14_method_53_code 21 = .ok (.iaload, 1) := by decide +kernel
theorem d_Mo_nextOrder_22 : decode prog_14_method_53_code 22 = .ok (.if_icmp .le 9, 3) := by decide +kernel
theorem d_Mo_nextOrder_25 : decode prog_14_method_53_code 25 = .ok (.iinc 2 (-1), 3) := by decide +kernel
theorem d_Mo_nextOrder_28 : decode prog_14_method_53_code 28 = .ok (.goto (-24), 3) := by decide +kernel
theorem d_Mo_nextOrder_31 : decode prog_14_method_53_code 31 = .ok (.iload_n 2, 1) := by decide +kernel
theorem d_Mo_nextOrder_32 : decode prog_14_method_53_code 32 = .ok (.ifCond .ge 5, 3) := by decide +kernel
theorem d_Mo_nextOrder_35 : decode prog_14_method_53_code 35 = .ok (.iconst 0, 1) := by decide +kernel
theorem d_Mo_nextOrder_36 : decode prog_14_method_53_code 36 = .ok (.ireturn, 1) := by decide +kernel
theorem d_Mo_nextOrder_37 : decode prog_14_method_53_code 37 = .ok (.iload_n 1, 1) := by decide +kernel
theorem d_Mo_nextOrder_38 : decode prog_14_method_53_code 38 = .ok (.iconst 1, 1) := by decide +kernel
theorem d_Mo_nextOrder_39 : decode prog_14_method_53_code 39 = .ok (.isub, 1) := by decide +kernel
theorem d_Mo_nextOrder_40 : decode prog_14_method_53_code 40 = .ok (.istore_n 3, 1) := by decide +kernel
theorem d_Mo_nextOrder_41 : decode prog_14_method_53_code 41 = .ok (.aload_n 0, 1) := by decide +kernel
theorem d_Mo_nextOrder_42 : decode prog_14_method_53_code 42 = .ok (.getfield 92, 3) := by decide +kernel
theorem d_Mo_nextOrder_45 : decode prog_14_method_53_code 45 = .ok (.iload_n 3, 1) := by decide +kernel
theorem d_Mo_nextOrder_46 : decode prog_14_method_53_code 46 = .ok (.iaload, 1) := by decide +kernel
theorem d_Mo_nextOrder_47 : decode prog_14_method_53_code 47 = .ok (.aload_n 0, 1) := by decide +kernel
theorem d_Mo_nextOrder_48 : decode prog_14_method_53_code 48 = .ok (.getfield 92, 3) := by decide +kernel
theorem d_Mo_nextOrder_51 : decode prog_14_method_53_code 51 = .ok (.iload_n 2, 1) := by decide +kernel
theorem d_Mo_nextOrder_52 : decode prog_14_method_53_code 52 = .ok (.iaload, 1) := by decide +kernel
theorem d_Mo_nextOrder_53 : decode prog_14_method_53_code 53 = .ok (.if_icmp .ge 9, 3) := by decide +kernel
theorem d_Mo_nextOrder_56 : decode prog_14_method_53_code 56 = .ok (.iinc 3 (-1), 3) := by decide +kernel
theorem d_Mo_nextOrder_59 : decode prog_14_method_53_code 59 = .ok (.goto (-18), 3) := by decide +kernel
theorem d_Mo_nextOrder_62 : decode prog_14_method_53_code 62 = .ok (.aload_n 0, 1) := by decide +kernel
theorem d_Mo_nextOrder_63 : decode prog_14_method_53_code 63 = .ok (.getfield 92, 3) := by decide +kernel
theorem d_Mo_nextOrder_66 : decode prog_14_method_53_code 66 = .ok (.iload_n 2, 1) := by decide +kernel
theorem d_Mo_nextOrder_67 : decode prog_14_method_53_code 67 = .ok (.iaload, 1) := by decide +kernel
theorem d_Mo_nextOrder_68 : decode prog_14_method_53_code 68 = .ok (.istore 4, 2) := by decide +kernel
theorem d_Mo_nextOrder_70 : decode prog_14_method_53_code 70 = .ok (.aload_n 0, 1) := by decide +kernel
theorem d_Mo_nextOrder_71 : decode prog_14_method_53_code 71 = .ok (.getfield 92, 3) := by decide +kernel
theorem d_Mo_nextOrder_74 : decode prog_14_method_53_code 74 = .ok (.iload_n 2, 1) := by decide +kernel
theorem d_Mo_nextOrder_75 : decode prog_14_method_53_code 75 = .ok (.aload_n 0, 1) := by decide +kernel
theorem d_Mo_nextOrder_76 : decode prog_14_method_53_code 76 = .ok (.getfield 92, 3) := by decide +kernel
theorem d_Mo_nextOrder_79 : decode prog_14_method_53_code 79 = .ok (.iload_n 3, 1) := by decide +kernel
theorem d_Mo_nextOrder_80 : decode prog_14_method_53_code 80 = .ok (.iaload, 1) := by decide +kernel
theorem d_Mo_nextOrder_81 : decode prog_14_method_53_code 81 = .ok (.iastore, 1) := by decide +kernel
theorem d_Mo_nextOrder_82 : decode prog_14_method_53_code 82 = .ok (.aload_n 0, 1) := by decide +kernel
theorem d_Mo_nextOrder_83 : decode prog_14_method_53_code 83 = .ok (.getfield 92, 3) := by decide +kernel
theorem d_Mo_nextOrder_86 : decode prog_14_method_53_code 86 = .ok (.iload_n 3, 1) := by decide +kernel
theorem d_Mo_nextOrder_87 : decode prog_14_method_53_code 87 = .ok (.iload 4, 2) := by decide +kernel
theorem d_Mo_nextOrder_89 : decode prog_14_method_53_code 89 = .ok (.iastore, 1) := by decide +kernel
theorem d_Mo_nextOrder_90 : decode prog_14_method_53_code 90 = .ok (.iload_n 2, 1) := by decide +kernel
theorem d_Mo_nextOrder_91 : decode prog_14_method_53_code 91 = .ok (.iconst 1, 1) := by decide +kernel
theorem d_Mo_nextOrder_92 : decode prog_14_method_53_code 92 = .ok (.iadd, 1) := by decide +kernel
theorem d_Mo_nextOrder_93 : decode prog_14_method_53_code 93 = .ok (.istore 5, 2) := by decide +kernel
theorem d_Mo_nextOrder_95 : decode prog_14_method_53_code 95 = .ok (.iload_n 1, 1) := by decide +kernel
theorem d_Mo_nextOrder_96 : decode prog_14_method_53_code 96 = .ok (.iconst 1, 1) := by decide +kernel
theorem d_Mo_nextOrder_97 : decode prog_14_method_53_code 97 = .ok (.isub, 1) := by decide +kernel
theorem d_Mo_nextOrder_98 : decode prog_14_method_53_code 98 = .ok (.istore 6, 2) := by decide +kernel
theorem d_Mo_nextOrder_100 : decode prog_14_method_53_code 100 = .ok (.iload 5, 2) := by decide +kernel
theorem d_Mo_nextOrder_102 : decode prog_14_method_53_code 102 = .ok (.iload 6, 2) := by decide +kernel
theorem d_Mo_nextOrder_104 : decode prog_14_method_53_code 104 = .ok (.if_icmp .ge 44, 3) := by decide +kernel
theorem d_Mo_nextOrder_107 : decode prog_14_method_53_code 107 = .ok (.aload_n 0, 1) := by decide +kernel
theorem d_Mo_nextOrder_108 : decode prog_14_method_53_code 108 = .ok (.getfield 92, 3) := by decide +kernel
theorem d_Mo_nextOrder_111 : decode prog_14_method_53_code 111 = .ok (.iload 5, 2) := by decide +kernel
theorem d_Mo_nextOrder_113 : decode prog_14_method_53_code 113 = .ok (.iaload, 1) := by decide +kernel
theorem d_Mo_nextOrder_114 : decode prog_14_method_53_code 114 = .ok (.istore 4, 2) := by decide +kernel
theorem d_Mo_nextOrder_116 : decode prog_14_method_53_code 116 = .ok (.aload_n 0, 1) := by decide +kernel
theorem d_Mo_nextOrder_117 : decode prog_14_method_53_code 117 = .ok (.getfield 92, 3) := by decide +kernel
theorem d_Mo_nextOrder_120 : decode prog_14_method_53_code 120 = .ok (.iload 5, 2) := by decide +kernel
theorem d_Mo_nextOrder_122 : decode prog_14_method_53_code 122 = .ok (.aload_n 0, 1) := by decide +kernel
theorem d_Mo_nextOrder_123 : decode prog_14_method_53_code 123 = .ok (.getfield 92, 3) := by decide +kernel
theorem d_Mo_nextOrder_126 : decode prog_14_method_53_code 126 = .ok (.iload 6, 2) := by decide +kernel
theorem d_Mo_nextOrder_128 : decode prog_14_method_53_code 128 = .ok (.iaload, 1) := by decide +kernel
theorem d_Mo_nextOrder_129 : decode prog_14_method_53_code 129 = .ok (.iastore, 1) := by decide +kernel
theorem d_Mo_nextOrder_130 : decode prog_14_method_53_code 130 = .ok (.aload_n 0, 1) := by decide +kernel
theorem d_Mo_nextOrder_131 : decode prog_14_method_53_code 131 = .ok (.getfield 92, 3) := by decide +kernel
theorem d_Mo_nextOrder_134 : decode prog_14_method_53_code 134 = .ok (.iload 6, 2) := by decide +kernel
theorem d_Mo_nextOrder_136 : decode prog_14_method_53_code 136 = .ok (.iload 4, 2) := by decide +kernel
theorem d_Mo_nextOrder_138 : decode prog_14_method_53_code 138 = .ok (.iastore, 1) := by decide +kernel
theorem d_Mo_nextOrder_139 : decode prog_14_method_53_code 139 = .ok (.iinc 5 1, 3) := by decide +kernel
theorem d_Mo_nextOrder_142 : decode prog_14_method_53_code 142 = .ok (.iinc 6 (-1), 3) := by decide +kernel
theorem d_Mo_nextOrder_145 : decode prog_14_method_53_code 145 = .ok (.goto (-45), 3) := by decide +kernel
theorem d_Mo_nextOrder_148 : decode prog_14_method_53_code 148 = .ok (.iconst 1, 1) := by decide +kernel
theorem d_Mo_nextOrder_149 : decode prog_14_method_53_code 149 = .ok (.ireturn, 1) := by decide +kernel
theorem d_Mo_nthFold_0 : decode prog_14_method_56_code 0 = .ok (.iload_n 1, 1) := by decide +kernel
theorem d_Mo_nthFold_1 : decode prog_14_method_56_code 1 = .ok (.invokestatic 152, 3) := by decide +kernel
theorem d_Mo_nthFold_4 : decode prog_14_method_56_code 4 = .ok (.ifCond .eq 15, 3) := by decide +kernel
theorem d_Mo_nthFold_7 : decode prog_14_method_56_code 7 = .ok (.iload_n 2, 1) := by decide +kernel
theorem d_Mo_nthFold_8 : decode prog_14_method_56_code 8 = .ok (.i2l, 1) := by decide +kernel
theorem d_Mo_nthFold_9 : decode prog_14_method_56_code 9 = .ok (.lconst 1, 1) := by decide +kernel
theorem d_Mo_nthFold_10 : decode prog_14_method_56_code 10 = .ok (.ldc2_w 188, 3) := by decide +kernel
theorem d_Mo_nthFold_13 : decode prog_14_method_56_code 13 = .ok (.invokestatic 102, 3) := by decide +kernel
theorem d_Mo_nthFold_16 : decode prog_14_method_56_code 16 = .ok (.ifCond .ne 6, 3) := by decide +kernel
theorem d_Mo_nthFold_19 : decode prog_14_method_56_code 19 = .ok (.ldc 112, 2) := by decide +kernel
theorem d_Mo_nthFold_21 : decode prog_14_method_56_code 21 = .ok (.ireturn, 1) := by decide +kernel
theorem d_Mo_nthFold_22 : decode prog_14_method_56_code 22 = .ok (.iload_n 3, 1) := by decide +kernel
theorem d_Mo_nthFold_23 : decode prog_14_method_56_code 23 = .ok (.ifCond .lt 13, 3) := by decide +kernel
theorem d_Mo_nthFold_26 : decode prog_14_method_56_code 26 = .ok (.aload_n 0, 1) := by decide +kernel
theorem d_Mo_nthFold_27 : decode prog_14_method_56_code 27 = .ok (.iload_n 2, 1) := by decide +kernel
theorem d_Mo_nthFold_28 : decode prog_14_method_56_code 28 = .ok (.iload_n 3, 1) := by decide +kernel
theorem d_Mo_nthFold_29 : decode prog_14_method_56_code 29 = .ok (.invokevirtual 228, 3) := by decide +kernel
theorem d_Mo_nthFold_32 : decode prog_14_method_56_code 32 = .ok (.iload_n 3, 1) := by decide +kernel
theorem d_Mo_nthFold_33 : decode prog_14_method_56_code 33 = .ok (.if_icmp .gt 10, 3) := by decide +kernel
theorem d_Mo_nthFold_36 : decode prog_14_method_56_code 36 = .ok (.aload_n 0, 1) := by decide +kernel
theorem d_Mo_nthFold_37 : decode prog_14_method_56_code 37 = .ok (.ldc 136, 2) := by decide +kernel
theorem d_Mo_nthFold_39 : decode prog_14_method_56_code 39 = .ok (.invokevirtual 117, 3) := by decide +kernel
theorem d_Mo_nthFold_42 : decode prog_14_method_56_code 42 = .ok (.ireturn, 1) := by decide +kernel
theorem d_Mo_nthFold_43 : decode prog_14_method_56_code 43 = .ok (.aload_n 0, 1) := by decide +kernel
theorem d_Mo_nthFold_44 : decode prog_14_method_56_code 44 = .ok (.getfield 25, 3) := by decide +kernel
theorem d_Mo_nthFold_47 : decode prog_14_method_56_code 47 = .ok (.bipush 10, 2) := by decide +kernel
theorem d_Mo_nthFold_49 : decode prog_14_method_56_code 49 = .ok (.iload_n 2, 1) := by decide +kernel
theorem d_Mo_nthFold_50 : decode prog_14_method_56_code 50 = .ok (.iastore, 1) := by decide +kernel
theorem d_Mo_nthFold_51 : decode prog_14_method_56_code 51 = .ok (.iconst 0, 1) := by decide +kernel
theorem d_Mo_nthFold_52 : decode prog_14_method_56_code 52 = .ok (.istore 4, 2) := by decide +kernel
theorem d_Mo_nthFold_54 : decode prog_14_method_56_code 54 = .ok (.iload 4, 2) := by decide +kernel
theorem d_Mo_nthFold_56 : decode prog_14_method_56_code 56 = .ok (.iload_n 2, 1) := by decide +kernel
theorem d_Mo_nthFold_57 : decode prog_14_method_56_code 57 = .ok (.if_icmp .ge 27, 3) := by decide +kernel
theorem d_Mo_nthFold_60 : decode prog_14_method_56_code 60 = .ok (.aload_n 0, 1) := by decide +kernel
theorem d_Mo_nthFold_61 : decode prog_14_method_56_code 61 = .ok (.getfield 28, 3) := by decide +kernel
theorem d_Mo_nthFold_64 : decode prog_14_method_56_code 64 = .ok (.sipush 400, 3) := by decide +kernel
theorem d_Mo_nthFold_67 : decode prog_14_method_56_code 67 = .ok (.iload 4, 2) := by decide +kernel
theorem d_Mo_nthFold_69 : decode prog_14_method_56_code 69 = .ok (.iadd, 1) := by decide +kernel
theorem d_Mo_nthFold_70 : decode prog_14_method_56_code 70 = .ok (.aload_n 0, 1) := by decide +kernel
theorem d_Mo_nthFold_71 : decode prog_14_method_56_code 71 = .ok (.getfield 92, 3) := by decide +kernel
theorem d_Mo_nthFold_74 : decode prog_14_method_56_code 74 = .ok (.iload 4, 2) := by decide +kernel
theorem d_Mo_nthFold_76 : decode prog_14_method_56_code 76 = .ok (.iaload, 1) := by decide +kernel
theorem d_Mo_nthFold_77 : decode prog_14_method_56_code 77 = .ok (.iastore, 1) := by decide +kernel
theorem d_Mo_nthFold_78 : decode prog_14_method_56_code 78 = .ok (.iinc 4 1, 3) := by decide +kernel
theorem d_Mo_nthFold_81 : decode prog_14_method_56_code 81 = .ok (.goto (-27), 3) := by decide +kernel
theorem d_Mo_nthFold_84 : decode prog_14_method_56_code 84 = .ok (.aload_n 0, 1) := by decide +kernel
theorem d_Mo_nthFold_85 : decode prog_14_method_56_code 85 = .ok (.iload_n 1, 1) := by decide +kernel
theorem d_Mo_nthFold_86 : decode prog_14_method_56_code 86 = .ok (.bipush 7, 2) := by decide +kernel
theorem d_Mo_nthFold_88 : decode prog_14_method_56_code 88 = .ok (.invokevirtual 157, 3) := by decide +kernel
theorem d_Mo_nthFold_91 : decode prog_14_method_56_code 91 = .ok (.ireturn, 1) := by decide +kernel
theorem d_Mo_count_0 : decode prog_14_method_57_code 0 = .ok (.iload_n 1, 1) := by decide +kernel
theorem d_Mo_count_1 : decode prog_14_method_57_code 1 = .ok (.i2l, 1) := by decide +kernel
theorem d_Mo_count_2 : decode prog_14_method_57_code 2 = .ok (.lconst 0, 1) := by decide +kernel
theorem d_Mo_count_3 : decode prog_14_method_57_code 3 = .ok (.ldc2_w 231, 3) := by decide +kernel
theorem d_Mo_count_6 : decode prog_14_method_57_code 6 = .ok (.invokestatic 102, 3) := by decide +kernel
theorem d_Mo_count_9 : decode prog_14_method_57_code 9 = .ok (.ifCond .ne 6, 3) := by decide +kernel
theorem d_Mo_count_12 : decode prog_14_method_57_code 12 = .ok (.ldc 112, 2) := by decide +kernel
theorem d_Mo_count_14 : decode prog_14_method_57_code 14 = .ok (.ireturn, 1) := by decide +kernel
theorem d_Mo_count_15 : decode prog_14_method_57_code 15 = .ok (.iconst 0, 1) := by decide +kernel
theorem d_Mo_count_16 : decode prog_14_method_57_code 16 = .ok (.istore_n 2, 1) := by decide +kernel
theorem d_Mo_count_17 : decode prog_14_method_57_code 17 = .ok (.iconst 0, 1) := by decide +kernel
theorem d_Mo_count_18 : decode prog_14_method_57_code 18 = .ok (.istore_n 3, 1) := by decide +kernel
theorem d_Mo_count_19 : decode prog_14_method_57_code 19 = .ok (.iload_n 3, 1) := by decide +kernel
theorem d_Mo_count_20 : decode prog_14_method_57_code 20 = .ok (.bipush 8, 2) := by decide +kernel
theorem d_Mo_count_22 : decode prog_14_method_57_code 22 = .ok (.if_icmp .ge 30, 3) := by decide +kernel
theorem d_Mo_count_25 : decode prog_14_method_57_code 25 = .ok (.iload_n 1, 1) := by decide +kernel
theorem d_Mo_count_26 : decode prog_14_method_57_code 26 = .ok (.ifCond .ne 26, 3) := by decide +kernel
theorem d_Mo_count_29 : decode prog_14_method_57_code 29 = .ok (.iload_n 2, 1) := by decide +kernel
theorem d_Mo_count_30 : decode prog_14_method_57_code 30 = .ok (.aload_n 0, 1) := by decide +kernel
theorem d_Mo_count_31 : decode prog_14_method_57_code 31 = .ok (.getfield 7, 3) := by decide +kernel
theorem d_Mo_count_34 : decode prog_14_method_57_code 34 = .ok (.iload_n 3, 1) := by decide +kernel
theorem d_Mo_count_35 : decode prog_14_method_57_code 35 = .ok (.iaload, 1) := by decide +kernel
theorem d_Mo_count_36 : decode prog_14_method_57_code 36 = .ok (.ifCond .le 7, 3) := by decide +kernel
theorem d_Mo_count_39 : decode prog_14_method_57_code 39 = .ok (.iconst 1, 1) := by decide +kernel
theorem d_Mo_count_40 : decode prog_14_method_57_code 40 = .ok (.goto 4, 3) := by decide +kernel
theorem d_Mo_count_43 : decode prog_14_method_57_code 43 = .ok (.iconst 0, 1) := by decide +kernel
theorem d_Mo_count_44 : decode prog_14_method_57_code 44 = .ok (.iadd, 1) := by decide +kernel
theorem d_Mo_count_45 : decode prog_14_method_57_code 45 = .ok (.istore_n 2, 1) := by decide +kernel
theorem d_Mo_count_46 : decode prog_14_method_57_code 46 = .ok (.iinc 3 1, 3) := by decide +kernel
theorem d_Mo_count_49 : decode prog_14_method_57_code 49 = .ok (.goto (-30), 3) := by decide +kernel
theorem d_Mo_count_52 : decode prog_14_method_57_code 52 = .ok (.iconst 0, 1) := by decide +kernel
theorem d_Mo_count_53 : decode prog_14_method_57_code 53 = .ok (.istore_n 3, 1) := by decide +kernel
theorem d_Mo_count_54 : decode prog_14_method_57_code 54 = .ok (.iload_n 3, 1) := by decide +kernel
theorem d_Mo_count_55 : decode prog_14_method_57_code 55 = .ok (.bipush 10, 2) := by decide +kernel
theorem d_Mo_count_57 : decode prog_14_method_57_code 57 = .ok (.if_icmp .ge 71, 3) := by decide +kernel
theorem d_Mo_count_60 : decode prog_14_method_57_code 60 = .ok (.iload_n 1, 1) := by decide +kernel
theorem d_Mo_count_61 : decode prog_14_method_57_code 61 = .ok (.ifCond .le 67, 3) := by decide +kernel
theorem d_Mo_count_64 : decode prog_14_method_57_code 64 = .ok (.aload_n 0, 1) := by decide +kernel
theorem d_Mo_count_65 : decode prog_14_method_57_code 65 = .ok (.getfield 22, 3) := by decide +kernel
theorem d_Mo_count_68 : decode prog_14_method_57_code 68 = .ok (.iload_n 3, 1) := by decide +kernel
theorem d_Mo_count_69 : decode prog_14_method_57_code 69 = .ok (.iaload, 1) := by decide +kernel
theorem d_Mo_count_70 : decode prog_14_method_57_code 70 = .ok (.istore 4, 2) := by decide +kernel
theorem d_Mo_count_72 : decode prog_14_method_57_code 72 = .ok (.iload_n 2, 1) := by decide +kernel
theorem d_Mo_count_73 : decode prog_14_method_57_code 73 = .ok (.iload 4, 2) := by decide +kernel
theorem d_Mo_count_75 : decode prog_14_method_57_code 75 = .ok (.ifCond .le 44, 3) := by decide +kernel
theorem d_Mo_count_78 : decode prog_14_method_57_code 78 = .ok (.iload 4, 2) := by decide +kernel
theorem d_Mo_count_80 : decode prog_14_method_57_code 80 = .ok (.iload_n 1, 1) := by decide +kernel
theorem d_Mo_count_81 : decode prog_14_method_57_code 81 = .ok (.iconst 1, 1) := by decide +kernel
theorem d_Mo_count_82 : decode prog_14_method_57_code 82 = .ok (.if_icmp .ne 7, 3) := by decide +kernel
theorem d_Mo_count_85 : decode prog_14_method_57_code 85 = .ok (.iconst 0, 1) := by decide +kernel
theorem d_Mo_count_86 : decode prog_14_method_57_code 86 = .ok (.goto 23, 3) := by decide +kernel
theorem d_Mo_count_89 : decode prog_14_method_57_code 89 = .ok (.iload_n 1, 1) := by decide +kernel
theorem d_Mo_count_90 : decode prog_14_method_57_code 90 = .ok (.iconst 2, 1) := by decide +kernel
theorem d_Mo_count_91 : decode prog_14_method_57_code 91 = .ok (.if_icmp .ne 7, 3) := by decide +kernel
theorem d_Mo_count_94 : decode prog_14_method_57_code 94 = .ok (.iconst 1, 1) := by decide +kernel
theorem d_Mo_count_95 : decode prog_14_method_57_code 95 = .ok (.goto 14, 3) := by decide +kernel
theorem d_Mo_count_98 : decode prog_14_method_57_code 98 = .ok (.iload_n 1, 1) := by decide +kernel
theorem d_Mo_count_99 : decode prog_14_method_57_code 99 = .ok (.iconst 3, 1) := by decide +kernel
theorem d_Mo_count_100 : decode prog_14_method_57_code 100 = .ok (.if_icmp .ne 7, 3) := by decide +kernel
theorem d_Mo_count_103 : decode prog_14_method_57_code 103 = .ok (.iconst 5, 1) := by decide +kernel
theorem d_Mo_count_104 : decode prog_14_method_57_code 104 = .ok (.goto 5, 3) := by decide +kernel
theorem d_Mo_count_107 : decode prog_14_method_57_code 107 = .ok (.bipush 7, 2) := by decide +kernel
theorem d_Mo_count_109 : decode prog_14_method_57_code 109 = .ok (.invokestatic 161, 3) := by decide +kernel
theorem d_Mo_count_112 : decode prog_14_method_57_code 112 = .ok (.ifCond .eq 7, 3) := by decide +kernel
theorem d_Mo_count_115 : decode prog_14_method_57_code 115 = .ok (.iconst 1, 1) := by decide +kernel
theorem d_Mo_count_116 : decode prog_14_method_57_code 116 = .ok (.goto 4, 3) := by decide +kernel
theorem d_Mo_count_119 : decode prog_14_method_57_code 119 = .ok (.iconst 0, 1) := by decide +kernel
theorem d_Mo_count_120 : decode prog_14_method_57_code 120 = .ok (.iadd, 1) := by decide +kernel
theorem d_Mo_count_121 : decode prog_14_method_57_code 121 = .ok (.istore_n 2, 1) := by decide +kernel
theorem d_Mo_count_122 : decode prog_14_method_57_code 122 = .ok (.iinc 3 1, 3) := by decide +kernel
theorem d_Mo_count_125 : decode prog_14_method_57_code 125 = .ok (.goto (-71), 3) := by decide +kernel
theorem d_Mo_count_128 : decode prog_14_method_57_code 128 = .ok (.iload_n 2, 1) := by decide +kernel
theorem d_Mo_count_129 : decode prog_14_method_57_code 129 = .ok (.ireturn, 1) := by decide +kernel
theorem d_Mo_status_0 : decode prog_14_method_58_code 0 = .ok (.aload_n 0, 1) := by decide +kernel
theorem d_Mo_status_1 : decode prog_14_method_58_code 1 = .ok (.getfield 95, 3) := by decide +kernel
theorem d_Mo_status_4 : decode prog_14_method_58_code 4 = .ok (.ireturn, 1) := by decide +kernel
theorem d_Law_0 : decode code 0 = .ok (.new 7, 3) := by decide +kernel
theorem d_Law_3 : decode code 3 = .ok (.dup, 1) := by decide +kernel
theorem d_Law_4 : decode code 4 = .ok (.invokespecial 9, 3) := by decide +kernel
theorem d_Law_7 : decode code 7 = .ok (.astore_n 1, 1) := by decide +kernel
theorem d_Law_8 : decode code 8 = .ok (.new 10, 3) := by decide +kernel
theorem d_Law_11 : decode code 11 = .ok (.dup, 1) := by decide +kernel
theorem d_Law_12 : decode code 12 = .ok (.invokespecial 12, 3) := by decide +kernel
theorem d_Law_15 : decode code 15 = .ok (.astore_n 2, 1) := by decide +kernel
theorem d_Law_16 : decode code 16 = .ok (.iconst 0, 1) := by decide +kernel
theorem d_Law_17 : decode code 17 = .ok (.istore_n 3, 1) := by decide +kernel
theorem d_Law_18 : decode code 18 = .ok (.iload_n 3, 1) := by decide +kernel
theorem d_Law_19 : decode code 19 = .ok (.aload_n 0, 1) := by decide +kernel
theorem d_Law_20 : decode code 20 = .ok (.arraylength, 1) := by decide +kernel
theorem d_Law_21 : decode code 21 = .ok (.bipush 6, 2) := by decide +kernel
theorem d_Law_23 : decode code 23 = .ok (.isub, 1) := by decide +kernel
theorem d_Law_24 : decode code 24 = .ok (.if_icmp .gt 1171, 3) := by decide +kernel
theorem d_Law_27 : decode code 27 = .ok (.aload_n 0, 1) := by decide +kernel
theorem d_Law_28 : decode code 28 = .ok (.iload_n 3, 1) := by decide +kernel
theorem d_Law_29 : decode code 29 = .ok (.iaload, 1) := by decide +kernel
theorem d_Law_30 : decode code 30 = .ok (.bipush 31, 2) := by decide +kernel
theorem d_Law_32 : decode code 32 = .ok (.iand, 1) := by decide +kernel
theorem d_Law_33 : decode code 33 = .ok (.tableswitch 1156 0 29 #[135, 178, 221, 284, 307, 360, 403, 456, 499, 532, 565, 588, 611, 644, 677, 710, 733, 766, 799, 822, 855, 898, 931, 954, 988, 1021, 1054, 1077, 1120, 1143], 135) := by decide +kernel
theorem d_Law_168 : decode code 168 = .ok (.aload_n 1, 1) := by decide +kernel
theorem d_Law_169 : decode code 169 = .ok (.aload_n 0, 1) := by decide +kernel
theorem d_Law_170 : decode code 170 = .ok (.iload_n 3, 1) := by decide +kernel
theorem d_Law_171 : decode code 171 = .ok (.iconst 1, 1) := by decide +kernel
theorem d_Law_172 : decode code 172 = .ok (.iadd, 1) := by decide +kernel
theorem d_Law_173 : decode code 173 = .ok (.iaload, 1) := by decide +kernel
theorem d_Law_174 : decode code 174 = .ok (.aload_n 0, 1) := by decide +kernel
theorem d_Law_175 : decode code 175 = .ok (.iload_n 3, 1) := by decide +kernel
theorem d_Law_176 : decode code 176 = .ok (.iconst 2, 1) := by decide +kernel
theorem d_Law_177 : decode code 177 = .ok (.iadd, 1) := by decide +kernel
theorem d_Law_178 : decode code 178 = .ok (.iaload, 1) := by decide +kernel
theorem d_Law_179 : decode code 179 = .ok (.aload_n 0, 1) := by decide +kernel
theorem d_Law_180 : decode code 180 = .ok (.iload_n 3, 1) := by decide +kernel
theorem d_Law_181 : decode code 181 = .ok (.iconst 3, 1) := by decide +kernel
theorem d_Law_182 : decode code 182 = .ok (.iadd, 1) := by decide +kernel
theorem d_Law_183 : decode code 183 = .ok (.iaload, 1) := by decide +kernel
theorem d_Law_184 : decode code 184 = .ok (.invokevirtual 13, 3) := by decide +kernel
theorem d_Law_187 : decode code 187 = .ok (.aload_n 2, 1) := by decide +kernel
theorem d_Law_188 : decode code 188 = .ok (.aload_n 0, 1) := by decide +kernel
theorem d_Law_189 : decode code 189 = .ok (.iload_n 3, 1) := by decide +kernel
theorem d_Law_190 : decode code 190 = .ok (.iconst 1, 1) := by decide +kernel
theorem d_Law_191 : decode code 191 = .ok (.iadd, 1) := by decide +kernel
theorem d_Law_192 : decode code 192 = .ok (.iaload, 1) := by decide +kernel
theorem d_Law_193 : decode code 193 = .ok (.aload_n 0, 1) := by decide +kernel
theorem d_Law_194 : decode code 194 = .ok (.iload_n 3, 1) := by decide +kernel
theorem d_Law_195 : decode code 195 = .ok (.iconst 2, 1) := by decide +kernel
theorem d_Law_196 : decode code 196 = .ok (.iadd, 1) := by decide +kernel
theorem d_Law_197 : decode code 197 = .ok (.iaload, 1) := by decide +kernel
theorem d_Law_198 : decode code 198 = .ok (.aload_n 0, 1) := by decide +kernel
theorem d_Law_199 : decode code 199 = .ok (.iload_n 3, 1) := by decide +kernel
theorem d_Law_200 : decode code 200 = .ok (.iconst 3, 1) := by decide +kernel
theorem d_Law_201 : decode code 201 = .ok (.iadd, 1) := by decide +kernel
theorem d_Law_202 : decode code 202 = .ok (.iaload, 1) := by decide +kernel
theorem d_Law_203 : decode code 203 = .ok (.invokevirtual 17, 3) := by decide +kernel
theorem d_Law_206 : decode code 206 = .ok (.if_icmp .eq 983, 3) := by decide +kernel
theorem d_Law_209 : decode code 209 = .ok (.iconst 0, 1) := by decide +kernel
theorem d_Law_210 : decode code 210 = .ok (.ireturn, 1) := by decide +kernel
theorem d_Law_211 : decode code 211 = .ok (.aload_n 1, 1) := by decide +kernel
theorem d_Law_212 : decode code 212 = .ok (.aload_n 0, 1) := by decide +kernel
theorem d_Law_213 : decode code 213 = .ok (.iload_n 3, 1) := by decide +kernel
theorem d_Law_214 : decode code 214 = .ok (.iconst 1, 1) := by decide +kernel
theorem d_Law_215 : decode code 215 = .ok (.iadd, 1) := by decide +kernel
theorem d_Law_216 : decode code 216 = .ok (.iaload, 1) := by decide +kernel
theorem d_Law_217 : decode code 217 = .ok (.aload_n 0, 1) := by decide +kernel
theorem d_Law_218 : decode code 218 = .ok (.iload_n 3, 1) := by decide +kernel
theorem d_Law_219 : decode code 219 = .ok (.iconst 2, 1) := by decide +kernel
theorem d_Law_220 : decode code 220 = .ok (.iadd, 1) := by decide +kernel
theorem d_Law_221 : decode code 221 = .ok (.iaload, 1) := by decide +kernel
theorem d_Law_222 : decode code 222 = .ok (.aload_n 0, 1) := by decide +kernel
theorem d_Law_223 : decode code 223 = .ok (.iload_n 3, 1) := by decide +kernel
theorem d_Law_224 : decode code 224 = .ok (.iconst 3, 1) := by decide +kernel
theorem d_Law_225 : decode code 225 = .ok (.iadd, 1) := by decide +kernel
theorem d_Law_226 : decode code 226 = .ok (.iaload, 1) := by decide +kernel
theorem d_Law_227 : decode code 227 = .ok (.invokevirtual 18, 3) := by decide +kernel
theorem d_Law_230 : decode code 230 = .ok (.aload_n 2, 1) := by decide +kernel
theorem d_Law_231 : decode code 231 = .ok (.aload_n 0, 1) := by decide +kernel
theorem d_Law_232 : decode code 232 = .ok (.iload_n 3, 1) := by decide +kernel
theorem d_Law_233 : decode code 233 = .ok (.iconst 1, 1) := by decide +kernel
theorem d_Law_234 : decode code 234 = .ok (.iadd, 1) := by decide +kernel
theorem d_Law_235 : decode code 235 = .ok (.iaload, 1) := by decide +kernel
theorem d_Law_236 : decode code 236 = .ok (.aload_n 0, 1) := by decide +kernel
theorem d_Law_237 : decode code 237 = .ok (.iload_n 3, 1) := by decide +kernel
theorem d_Law_238 : decode code 238 = .ok (.iconst 2, 1) := by decide +kernel
theorem d_Law_239 : decode code 239 = .ok (.iadd, 1) := by decide +kernel
theorem d_Law_240 : decode code 240 = .ok (.iaload, 1) := by decide +kernel
theorem d_Law_241 : decode code 241 = .ok (.aload_n 0, 1) := by decide +kernel
theorem d_Law_242 : decode code 242 = .ok (.iload_n 3, 1) := by decide +kernel
theorem d_Law_243 : decode code 243 = .ok (.iconst 3, 1) := by decide +kernel
theorem d_Law_244 : decode code 244 = .ok (.iadd, 1) := by decide +kernel
theorem d_Law_245 : decode code 245 = .ok (.iaload, 1) := by decide +kernel
theorem d_Law_246 : decode code 246 = .ok (.invokevirtual 21, 3) := by decide +kernel
theorem d_Law_249 : decode code 249 = .ok (.if_icmp .eq 940, 3) := by decide +kernel
theorem d_Law_252 : decode code 252 = .ok (.iconst 0, 1) := by decide +kernel
theorem d_Law_253 : decode code 253 = .ok (.ireturn, 1) := by decide +kernel
theorem d_Law_254 : decode code 254 = .ok (.aload_n 1, 1) := by decide +kernel
theorem d_Law_255 : decode code 255 = .ok (.aload_n 0, 1) := by decide +kernel
theorem d_Law_256 : decode code 256 = .ok (.iload_n 3, 1) := by decide +kernel
theorem d_Law_257 : decode code 257 = .ok (.iconst 1, 1) := by decide +kernel
theorem d_Law_258 : decode code 258 = .ok (.iadd, 1) := by decide +kernel
theorem d_Law_259 : decode code 259 = .ok (.iaload, 1) := by decide +kernel
theorem d_Law_260 : decode code 260 = .ok (.aload_n 0, 1) := by decide +kernel
theorem d_Law_261 : decode code 261 = .ok (.iload_n 3, 1) := by decide +kernel
theorem d_Law_262 : decode code 262 = .ok (.iconst 2, 1) := by decide +kernel
theorem d_Law_263 : decode code 263 = .ok (.iadd, 1) := by decide +kernel
theorem d_Law_264 : decode code 264 = .ok (.iaload, 1) := by decide +kernel
theorem d_Law_265 : decode code 265 = .ok (.aload_n 0, 1) := by decide +kernel
theorem d_Law_266 : decode code 266 = .ok (.iload_n 3, 1) := by decide +kernel
theorem d_Law_267 : decode code 267 = .ok (.iconst 3, 1) := by decide +kernel
theorem d_Law_268 : decode code 268 = .ok (.iadd, 1) := by decide +kernel
theorem d_Law_269 : decode code 269 = .ok (.iaload, 1) := by decide +kernel
theorem d_Law_270 : decode code 270 = .ok (.aload_n 0, 1) := by decide +kernel
theorem d_Law_271 : decode code 271 = .ok (.iload_n 3, 1) := by decide +kernel
theorem d_Law_272 : decode code 272 = .ok (.iconst 4, 1) := by decide +kernel
theorem d_Law_273 : decode code 273 = .ok (.iadd, 1) := by decide +kernel
theorem d_Law_274 : decode code 274 = .ok (.iaload, 1) := by decide +kernel
theorem d_Law_275 : decode code 275 = .ok (.aload_n 0, 1) := by decide +kernel
theorem d_Law_276 : decode code 276 = .ok (.iload_n 3, 1) := by decide +kernel
theorem d_Law_277 : decode code 277 = .ok (.iconst 5, 1) := by decide +kernel
theorem d_Law_278 : decode code 278 = .ok (.iadd, 1) := by decide +kernel
theorem d_Law_279 : decode code 279 = .ok (.iaload, 1) := by decide +kernel
theorem d_Law_280 : decode code 280 = .ok (.invokevirtual 22, 3) := by decide +kernel
theorem d_Law_283 : decode code 283 = .ok (.aload_n 2, 1) := by decide +kernel
theorem d_Law_284 : decode code 284 = .ok (.aload_n 0, 1) := by decide +kernel
theorem d_Law_285 : decode code 285 = .ok (.iload_n 3, 1) := by decide +kernel
theorem d_Law_286 : decode code 286 = .ok (.iconst 1, 1) := by decide +kernel
theorem d_Law_287 : decode code 287 = .ok (.iadd, 1) := by decide +kernel
theorem d_Law_288 : decode code 288 = .ok (.iaload, 1) := by decide +kernel
theorem d_Law_289 : decode code 289 = .ok (.aload_n 0, 1) := by decide +kernel
theorem d_Law_290 : decode code 290 = .ok (.iload_n 3, 1) := by decide +kernel
theorem d_Law_291 : decode code 291 = .ok (.iconst 2, 1) := by decide +kernel
theorem d_Law_292 : decode code 292 = .ok (.iadd, 1) := by decide +kernel
theorem d_Law_293 : decode code 293 = .ok (.iaload, 1) := by decide +kernel
theorem d_Law_294 : decode code 294 = .ok (.aload_n 0, 1) := by decide +kernel
theorem d_Law_295 : decode code 295 = .ok (.iload_n 3, 1) := by decide +kernel
theorem d_Law_296 : decode code 296 = .ok (.iconst 3, 1) := by decide +kernel
theorem d_Law_297 : decode code 297 = .ok (.iadd, 1) := by decide +kernel
theorem d_Law_298 : decode code 298 = .ok (.iaload, 1) := by decide +kernel
theorem d_Law_299 : decode code 299 = .ok (.aload_n 0, 1) := by decide +kernel
theorem d_Law_300 : decode code 300 = .ok (.iload_n 3, 1) := by decide +kernel
theorem d_Law_301 : decode code 301 = .ok (.iconst 4, 1) := by decide +kernel
theorem d_Law_302 : decode code 302 = .ok (.iadd, 1) := by decide +kernel
theorem d_Law_303 : decode code 303 = .ok (.iaload, 1) := by decide +kernel
theorem d_Law_304 : decode code 304 = .ok (.aload_n 0, 1) := by decide +kernel
theorem d_Law_305 : decode code 305 = .ok (.iload_n 3, 1) := by decide +kernel
theorem d_Law_306 : decode code 306 = .ok (.iconst 5, 1) := by decide +kernel
theorem d_Law_307 : decode code 307 = .ok (.iadd, 1) := by decide +kernel
theorem d_Law_308 : decode code 308 = .ok (.iaload, 1) := by decide +kernel
theorem d_Law_309 : decode code 309 = .ok (.invokevirtual 26, 3) := by decide +kernel
theorem d_Law_312 : decode code 312 = .ok (.if_icmp .eq 877, 3) := by decide +kernel
theorem d_Law_315 : decode code 315 = .ok (.iconst 0, 1) := by decide +kernel
theorem d_Law_316 : decode code 316 = .ok (.ireturn, 1) := by decide +kernel
theorem d_Law_317 : decode code 317 = .ok (.aload_n 1, 1) := by decide +kernel
theorem d_Law_318 : decode code 318 = .ok (.aload_n 0, 1) := by decide +kernel
theorem d_Law_319 : decode code 319 = .ok (.iload_n 3, 1) := by decide +kernel
theorem d_Law_320 : decode code 320 = .ok (.iconst 1, 1) := by decide +kernel
theorem d_Law_321 : decode code 321 = .ok (.iadd, 1) := by decide +kernel
theorem d_Law_322 : decode code 322 = .ok (.iaload, 1) := by decide +kernel
theorem d_Law_323 : decode code 323 = .ok (.invokevirtual 27, 3) := by decide +kernel
theorem d_Law_326 : decode code 326 = .ok (.aload_n 2, 1) := by decide +kernel
theorem d_Law_327 : decode code 327 = .ok (.aload_n 0, 1) := by decide +kernel
theorem d_Law_328 : decode code 328 = .ok (.iload_n 3, 1) := by decide +kernel
theorem d_Law_329 : decode code 329 = .ok (.iconst 1, 1) := by decide +kernel
theorem d_Law_330 : decode code 330 = .ok (.iadd, 1) := by decide +kernel
theorem d_Law_331 : decode code 331 = .ok (.iaload, 1) := by decide +kernel
theorem d_Law_332 : decode code 332 = .ok (.invokevirtual 31, 3) := by decide +kernel
theorem d_Law_335 : decode code 335 = .ok (.if_icmp .eq 854, 3) := by decide +kernel
theorem d_Law_338 : decode code 338 = .ok (.iconst 0, 1) := by decide +kernel
theorem d_Law_339 : decode code 339 = .ok (.ireturn, 1) := by decide +kernel
theorem d_Law_340 : decode code 340 = .ok (.aload_n 1, 1) := by decide +kernel
theorem d_Law_341 : decode code 341 = .ok (.aload_n 0, 1) := by decide +kernel
theorem d_Law_342 : decode code 342 = .ok (.iload_n 3, 1) := by decide +kernel
theorem d_Law_343 : decode code 343 = .ok (.iconst 1, 1) := by decide +kernel
theorem d_Law_344 : decode code 344 = .ok (.iadd, 1) := by decide +kernel
theorem d_Law_345 : decode code 345 = .ok (.iaload, 1) := by decide +kernel
theorem d_Law_346 : decode code 346 = .ok (.aload_n 0, 1) := by decide +kernel
theorem d_Law_347 : decode code 347 = .ok (.iload_n 3, 1) := by decide +kernel
theorem d_Law_348 : decode code 348 = .ok (.iconst 2, 1) := by decide +kernel
theorem d_Law_349 : decode code 349 = .ok (.iadd, 1) := by decide +kernel
theorem d_Law_350 : decode code 350 = .ok (.iaload, 1) := by decide +kernel
theorem d_Law_351 : decode code 351 = .ok (.aload_n 0, 1) := by decide +kernel
theorem d_Law_352 : decode code 352 = .ok (.iload_n 3, 1) := by decide +kernel
theorem d_Law_353 : decode code 353 = .ok (.iconst 3, 1) := by decide +kernel
theorem d_Law_354 : decode code 354 = .ok (.iadd, 1) := by decide +kernel
theorem d_Law_355 : decode code 355 = .ok (.iaload, 1) := by decide +kernel
theorem d_Law_356 : decode code 356 = .ok (.aload_n 0, 1) := by decide +kernel
theorem d_Law_357 : decode code 357 = .ok (.iload_n 3, 1) := by decide +kernel
theorem d_Law_358 : decode code 358 = .ok (.iconst 4, 1) := by decide +kernel
theorem d_Law_359 : decode code 359 = .ok (.iadd, 1) := by decide +kernel
theorem d_Law_360 : decode code 360 = .ok (.iaload, 1) := by decide +kernel
theorem d_Law_361 : decode code 361 = .ok (.invokevirtual 32, 3) := by decide +kernel
theorem d_Law_364 : decode code 364 = .ok (.aload_n 2, 1) := by decide +kernel
theorem d_Law_365 : decode code 365 = .ok (.aload_n 0, 1) := by decide +kernel
theorem d_Law_366 : decode code 366 = .ok (.iload_n 3, 1) := by decide +kernel
theorem d_Law_367 : decode code 367 = .ok (.iconst 1, 1) := by decide +kernel
theorem d_Law_368 : decode code 368 = .ok (.iadd, 1) := by decide +kernel
theorem d_Law_369 : decode code 369 = .ok (.iaload, 1) := by decide +kernel
theorem d_Law_370 : decode code 370 = .ok (.aload_n 0, 1) := by decide +kernel
theorem d_Law_371 : decode code 371 = .ok (.iload_n 3, 1) := by decide +kernel
theorem d_Law_372 : decode code 372 = .ok (.iconst 2, 1) := by decide +kernel
theorem d_Law_373 : decode code 373 = .ok (.iadd, 1) := by decide +kernel
theorem d_Law_374 : decode code 374 = .ok (.iaload, 1) := by decide +kernel
theorem d_Law_375 : decode code 375 = .ok (.aload_n 0, 1) := by decide +kernel
theorem d_Law_376 : decode code 376 = .ok (.iload_n 3, 1) := by decide +kernel
theorem d_Law_377 : decode code 377 = .ok (.iconst 3, 1) := by decide +kernel
theorem d_Law_378 : decode code 378 = .ok (.iadd, 1) := by decide +kernel
theorem d_Law_379 : decode code 379 = .ok (.iaload, 1) := by decide +kernel
theorem d_Law_380 : decode code 380 = .ok (.aload_n 0, 1) := by decide +kernel
theorem d_Law_381 : decode code 381 = .ok (.iload_n 3, 1) := by decide +kernel
theorem d_Law_382 : decode code 382 = .ok (.iconst 4, 1) := by decide +kernel
theorem d_Law_383 : decode code 383 = .ok (.iadd, 1) := by decide +kernel
theorem d_Law_384 : decode code 384 = .ok (.iaload, 1) := by decide +kernel
theorem d_Law_385 : decode code 385 = .ok (.invokevirtual 36, 3) := by decide +kernel
theorem d_Law_388 : decode code 388 = .ok (.if_icmp .eq 801, 3) := by decide +kernel
theorem d_Law_391 : decode code 391 = .ok (.iconst 0, 1) := by decide +kernel
theorem d_Law_392 : decode code 392 = .ok (.ireturn, 1) := by decide +kernel
theorem d_Law_393 : decode code 393 = .ok (.aload_n 1, 1) := by decide +kernel
theorem d_Law_394 : decode code 394 = .ok (.aload_n 0, 1) := by decide +kernel
theorem d_Law_395 : decode code 395 = .ok (.iload_n 3, 1) := by decide +kernel
theorem d_Law_396 : decode code 396 = .ok (.iconst 1, 1) := by decide +kernel
theorem d_Law_397 : decode code 397 = .ok (.iadd, 1) := by decide +kernel
theorem d_Law_398 : decode code 398 = .ok (.iaload, 1) := by decide +kernel
theorem d_Law_399 : decode code 399 = .ok (.aload_n 0, 1) := by decide +kernel
theorem d_Law_400 : decode code 400 = .ok (.iload_n 3, 1) := by decide +kernel
theorem d_Law_401 : decode code 401 = .ok (.iconst 2, 1) := by decide +kernel
theorem d_Law_402 : decode code 402 = .ok (.iadd, 1) := by decide +kernel
theorem d_Law_403 : decode code 403 = .ok (.iaload, 1) := by decide +kernel
theorem d_Law_404 : decode code 404 = .ok (.aload_n 0, 1) := by decide +kernel
theorem d_Law_405 : decode code 405 = .ok (.iload_n 3, 1) := by decide +kernel
theorem d_Law_406 : decode code 406 = .ok (.iconst 3, 1) := by decide +kernel
theorem d_Law_407 : decode code 407 = .ok (.iadd, 1) := by decide +kernel
theorem d_Law_408 : decode code 408 = .ok (.iaload, 1) := by decide +kernel
theorem d_Law_409 : decode code 409 = .ok (.invokevirtual 37, 3) := by decide +kernel
theorem d_Law_412 : decode code 412 = .ok (.aload_n 2, 1) := by decide +kernel
theorem d_Law_413 : decode code 413 = .ok (.aload_n 0, 1) := by decide +kernel
theorem d_Law_414 : decode code 414 = .ok (.iload_n 3, 1) := by decide +kernel
theorem d_Law_415 : decode code 415 = .ok (.iconst 1, 1) := by decide +kernel
theorem d_Law_416 : decode code 416 = .ok (.iadd, 1) := by decide +kernel
theorem d_Law_417 : decode code 417 = .ok (.iaload, 1) := by decide +kernel
theorem d_Law_418 : decode code 418 = .ok (.aload_n 0, 1) := by decide +kernel
theorem d_Law_419 : decode code 419 = .ok (.iload_n 3, 1) := by decide +kernel
theorem d_Law_420 : decode code 420 = .ok (.iconst 2, 1) := by decide +kernel
theorem d_Law_421 : decode code 421 = .ok (.iadd, 1) := by decide +kernel
theorem d_Law_422 : decode code 422 = .ok (.iaload, 1) := by decide +kernel
theorem d_Law_423 : decode code 423 = .ok (.aload_n 0, 1) := by decide +kernel
theorem d_Law_424 : decode code 424 = .ok (.iload_n 3, 1) := by decide +kernel
theorem d_Law_425 : decode code 425 = .ok (.iconst 3, 1) := by decide +kernel
theorem d_Law_426 : decode code 426 = .ok (.iadd, 1) := by decide +kernel
theorem d_Law_427 : decode code 427 = .ok (.iaload, 1) := by decide +kernel
theorem d_Law_428 : decode code 428 = .ok (.invokevirtual 40, 3) := by decide +kernel
theorem d_Law_431 : decode code 431 = .ok (.if_icmp .eq 758, 3) := by decide +kernel
theorem d_Law_434 : decode code 434 = .ok (.iconst 0, 1) := by decide +kernel
theorem d_Law_435 : decode code 435 = .ok (.ireturn, 1) := by decide +kernel
theorem d_Law_436 : decode code 436 = .ok (.aload_n 1, 1) := by decide +kernel
theorem d_Law_437 : decode code 437 = .ok (.aload_n 0, 1) := by decide +kernel
theorem d_Law_438 : decode code 438 = .ok (.iload_n 3, 1) := by decide +kernel
theorem d_Law_439 : decode code 439 = .ok (.iconst 1, 1) := by decide +kernel
theorem d_Law_440 : decode code 440 = .ok (.iadd, 1) := by decide +kernel
theorem d_Law_441 : decode code 441 = .ok (.iaload, 1) := by decide +kernel
theorem d_Law_442 : decode code 442 = .ok (.aload_n 0, 1) := by decide +kernel
theorem d_Law_443 : decode code 443 = .ok (.iload_n 3, 1) := by decide +kernel
theorem d_Law_444 : decode code 444 = .ok (.iconst 2, 1) := by decide +kernel
theorem d_Law_445 : decode code 445 = .ok (.iadd, 1) := by decide +kernel
theorem d_Law_446 : decode code 446 = .ok (.iaload, 1) := by decide +kernel
theorem d_Law_447 : decode code 447 = .ok (.aload_n 0, 1) := by decide +kernel
theorem d_Law_448 : decode code 448 = .ok (.iload_n 3, 1) := by decide +kernel
theorem d_Law_449 : decode code 449 = .ok (.iconst 3, 1) := by decide +kernel
theorem d_Law_450 : decode code 450 = .ok (.iadd, 1) := by decide +kernel
theorem d_Law_451 : decode code 451 = .ok (.iaload, 1) := by decide +kernel
theorem d_Law_452 : decode code 452 = .ok (.aload_n 0, 1) := by decide +kernel
theorem d_Law_453 : decode code 453 = .ok (.iload_n 3, 1) := by decide +kernel
theorem d_Law_454 : decode code 454 = .ok (.iconst 4, 1) := by decide +kernel
theorem d_Law_455 : decode code 455 = .ok (.iadd, 1) := by decide +kernel
theorem d_Law_456 : decode code 456 = .ok (.iaload, 1) := by decide +kernel
theorem d_Law_457 : decode code 457 = .ok (.invokevirtual 41, 3) := by decide +kernel
theorem d_Law_460 : decode code 460 = .ok (.aload_n 2, 1) := by decide +kernel
theorem d_Law_461 : decode code 461 = .ok (.aload_n 0, 1) := by decide +kernel
theorem d_Law_462 : decode code 462 = .ok (.iload_n 3, 1) := by decide +kernel
theorem d_Law_463 : decode code 463 = .ok (.iconst 1, 1) := by decide +kernel
theorem d_Law_464 : decode code 464 = .ok (.iadd, 1) := by decide +kernel
theorem d_Law_465 : decode code 465 = .ok (.iaload, 1) := by decide +kernel
theorem d_Law_466 : decode code 466 = .ok (.aload_n 0, 1) := by decide +kernel
theorem d_Law_467 : decode code 467 = .ok (.iload_n 3, 1) := by decide +kernel
theorem d_Law_468 : decode code 468 = .ok (.iconst 2, 1) := by decide +kernel
theorem d_Law_469 : decode code 469 = .ok (.iadd, 1) := by decide +kernel
theorem d_Law_470 : decode code 470 = .ok (.iaload, 1) := by decide +kernel
theorem d_Law_471 : decode code 471 = .ok (.aload_n 0, 1) := by decide +kernel
theorem d_Law_472 : decode code 472 = .ok (.iload_n 3, 1) := by decide +kernel
theorem d_Law_473 : decode code 473 = .ok (.iconst 3, 1) := by decide +kernel
theorem d_Law_474 : decode code 474 = .ok (.iadd, 1) := by decide +kernel
theorem d_Law_475 : decode code 475 = .ok (.iaload, 1) := by decide +kernel
theorem d_Law_476 : decode code 476 = .ok (.aload_n 0, 1) := by decide +kernel
theorem d_Law_477 : decode code 477 = .ok (.iload_n 3, 1) := by decide +kernel
theorem d_Law_478 : decode code 478 = .ok (.iconst 4, 1) := by decide +kernel
theorem d_Law_479 : decode code 479 = .ok (.iadd, 1) := by decide +kernel
theorem d_Law_480 : decode code 480 = .ok (.iaload, 1) := by decide +kernel
theorem d_Law_481 : decode code 481 = .ok (.invokevirtual 44, 3) := by decide +kernel
theorem d_Law_484 : decode code 484 = .ok (.if_icmp .eq 705, 3) := by decide +kernel
theorem d_Law_487 : decode code 487 = .ok (.iconst 0, 1) := by decide +kernel
theorem d_Law_488 : decode code 488 = .ok (.ireturn, 1) := by decide +kernel
theorem d_Law_489 : decode code 489 = .ok (.aload_n 1, 1) := by decide +kernel
theorem d_Law_490 : decode code 490 = .ok (.aload_n 0, 1) := by decide +kernel
theorem d_Law_491 : decode code 491 = .ok (.iload_n 3, 1) := by decide +kernel
theorem d_Law_492 : decode code 492 = .ok (.iconst 1, 1) := by decide +kernel
theorem d_Law_493 : decode code 493 = .ok (.iadd, 1) := by decide +kernel
theorem d_Law_494 : decode code 494 = .ok (.iaload, 1) := by decide +kernel
theorem d_Law_495 : decode code 495 = .ok (.aload_n 0, 1) := by decide +kernel
theorem d_Law_496 : decode code 496 = .ok (.iload_n 3, 1) := by decide +kernel
theorem d_Law_497 : decode code 497 = .ok (.iconst 2, 1) := by decide +kernel
theorem d_Law_498 : decode code 498 = .ok (.iadd, 1) := by decide +kernel
theorem d_Law_499 : decode code 499 = .ok (.iaload, 1) := by decide +kernel
theorem d_Law_500 : decode code 500 = .ok (.aload_n 0, 1) := by decide +kernel
theorem d_Law_501 : decode code 501 = .ok (.iload_n 3, 1) := by decide +kernel
theorem d_Law_502 : decode code 502 = .ok (.iconst 3, 1) := by decide +kernel
theorem d_Law_503 : decode code 503 = .ok (.iadd, 1) := by decide +kernel
theorem d_Law_504 : decode code 504 = .ok (.iaload, 1) := by decide +kernel
theorem d_Law_505 : decode code 505 = .ok (.invokevirtual 45, 3) := by decide +kernel
theorem d_Law_508 : decode code 508 = .ok (.aload_n 2, 1) := by decide +kernel
theorem d_Law_509 : decode code 509 = .ok (.aload_n 0, 1) := by decide +kernel
theorem d_Law_510 : decode code 510 = .ok (.iload_n 3, 1) := by decide +kernel
theorem d_Law_511 : decode code 511 = .ok (.iconst 1, 1) := by decide +kernel
theorem d_Law_512 : decode code 512 = .ok (.iadd, 1) := by decide +kernel
theorem d_Law_513 : decode code 513 = .ok (.iaload, 1) := by decide +kernel
theorem d_Law_514 : decode code 514 = .ok (.aload_n 0, 1) := by decide +kernel
theorem d_Law_515 : decode code 515 = .ok (.iload_n 3, 1) := by decide +kernel
theorem d_Law_516 : decode code 516 = .ok (.iconst 2, 1) := by decide +kernel
theorem d_Law_517 : decode code 517 = .ok (.iadd, 1) := by decide +kernel
theorem d_Law_518 : decode code 518 = .ok (.iaload, 1) := by decide +kernel
theorem d_Law_519 : decode code 519 = .ok (.aload_n 0, 1) := by decide +kernel
theorem d_Law_520 : decode code 520 = .ok (.iload_n 3, 1) := by decide +kernel
theorem d_Law_521 : decode code 521 = .ok (.iconst 3, 1) := by decide +kernel
theorem d_Law_522 : decode code 522 = .ok (.iadd, 1) := by decide +kernel
theorem d_Law_523 : decode code 523 = .ok (.iaload, 1) := by decide +kernel
theorem d_Law_524 : decode code 524 = .ok (.invokevirtual 48, 3) := by decide +kernel
theorem d_Law_527 : decode code 527 = .ok (.if_icmp .eq 662, 3) := by decide +kernel
theorem d_Law_530 : decode code 530 = .ok (.iconst 0, 1) := by decide +kernel
theorem d_Law_531 : decode code 531 = .ok (.ireturn, 1) := by decide +kernel
theorem d_Law_532 : decode code 532 = .ok (.aload_n 1, 1) := by decide +kernel
theorem d_Law_533 : decode code 533 = .ok (.aload_n 0, 1) := by decide +kernel
theorem d_Law_534 : decode code 534 = .ok (.iload_n 3, 1) := by decide +kernel
theorem d_Law_535 : decode code 535 = .ok (.iconst 1, 1) := by decide +kernel
theorem d_Law_536 : decode code 536 = .ok (.iadd, 1) := by decide +kernel
theorem d_Law_537 : decode code 537 = .ok (.iaload, 1) := by decide +kernel
theorem d_Law_538 : decode code 538 = .ok (.aload_n 0, 1) := by decide +kernel
theorem d_Law_539 : decode code 539 = .ok (.iload_n 3, 1) := by decide +kernel
theorem d_Law_540 : decode code 540 = .ok (.iconst 2, 1) := by decide +kernel
theorem d_Law_541 : decode code 541 = .ok (.iadd, 1) := by decide +kernel
theorem d_Law_542 : decode code 542 = .ok (.iaload, 1) := by decide +kernel
theorem d_Law_543 : decode code 543 = .ok (.invokevirtual 49, 3) := by decide +kernel
theorem d_Law_546 : decode code 546 = .ok (.aload_n 2, 1) := by decide +kernel
theorem d_Law_547 : decode code 547 = .ok (.aload_n 0, 1) := by decide +kernel
theorem d_Law_548 : decode code 548 = .ok (.iload_n 3, 1) := by decide +kernel
theorem d_Law_549 : decode code 549 = .ok (.iconst 1, 1) := by decide +kernel
theorem d_Law_550 : decode code 550 = .ok (.iadd, 1) := by decide +kernel
theorem d_Law_551 : decode code 551 = .ok (.iaload, 1) := by decide +kernel
theorem d_Law_552 : decode code 552 = .ok (.aload_n 0, 1) := by decide +kernel
theorem d_Law_553 : decode code 553 = .ok (.iload_n 3, 1) := by decide +kernel
theorem d_Law_554 : decode code 554 = .ok (.iconst 2, 1) := by decide +kernel
theorem d_Law_555 : decode code 555 = .ok (.iadd, 1) := by decide +kernel
theorem d_Law_556 : decode code 556 = .ok (.iaload, 1) := by decide +kernel
theorem d_Law_557 : decode code 557 = .ok (.invokevirtual 53, 3) := by decide +kernel
theorem d_Law_560 : decode code 560 = .ok (.if_icmp .eq 629, 3) := by decide +kernel
theorem d_Law_563 : decode code 563 = .ok (.iconst 0, 1) := by decide +kernel
theorem d_Law_564 : decode code 564 = .ok (.ireturn, 1) := by decide +kernel
theorem d_Law_565 : decode code 565 = .ok (.aload_n 1, 1) := by decide +kernel
theorem d_Law_566 : decode code 566 = .ok (.aload_n 0, 1) := by decide +kernel
theorem d_Law_567 : decode code 567 = .ok (.iload_n 3, 1) := by decide +kernel
theorem d_Law_568 : decode code 568 = .ok (.iconst 1, 1) := by decide +kernel
theorem d_Law_569 : decode code 569 = .ok (.iadd, 1) := by decide +kernel
theorem d_Law_570 : decode code 570 = .ok (.iaload, 1) := by decide +kernel
theorem d_Law_571 : decode code 571 = .ok (.aload_n 0, 1) := by decide +kernel
theorem d_Law_572 : decode code 572 = .ok (.iload_n 3, 1) := by decide +kernel
theorem d_Law_573 : decode code 573 = .ok (.iconst 2, 1) := by decide +kernel
theorem d_Law_574 : decode code 574 = .ok (.iadd, 1) := by decide +kernel
theorem d_Law_575 : decode code 575 = .ok (.iaload, 1) := by decide +kernel
theorem d_Law_576 : decode code 576 = .ok (.invokevirtual 54, 3) := by decide +kernel
theorem d_Law_579 : decode code 579 = .ok (.aload_n 2, 1) := by decide +kernel
theorem d_Law_580 : decode code 580 = .ok (.aload_n 0, 1) := by decide +kernel
theorem d_Law_581 : decode code 581 = .ok (.iload_n 3, 1) := by decide +kernel
theorem d_Law_582 : decode code 582 = .ok (.iconst 1, 1) := by decide +kernel
theorem d_Law_583 : decode code 583 = .ok (.iadd, 1) := by decide +kernel
theorem d_Law_584 : decode code 584 = .ok (.iaload, 1) := by decide +kernel
theorem d_Law_585 : decode code 585 = .ok (.aload_n 0, 1) := by decide +kernel
theorem d_Law_586 : decode code 586 = .ok (.iload_n 3, 1) := by decide +kernel
theorem d_Law_587 : decode code 587 = .ok (.iconst 2, 1) := by decide +kernel
theorem d_Law_588 : decode code 588 = .ok (.iadd, 1) := by decide +kernel
theorem d_Law_589 : decode code 589 = .ok (.iaload, 1) := by decide +kernel
theorem d_Law_590 : decode code 590 = .ok (.invokevirtual 57, 3) := by decide +kernel
theorem d_Law_593 : decode code 593 = .ok (.if_icmp .eq 596, 3) := by decide +kernel
theorem d_Law_596 : decode code 596 = .ok (.iconst 0, 1) := by decide +kernel
theorem d_Law_597 : decode code 597 = .ok (.ireturn, 1) := by decide +kernel
theorem d_Law_598 : decode code 598 = .ok (.aload_n 1, 1) := by decide +kernel
theorem d_Law_599 : decode code 599 = .ok (.aload_n 0, 1) := by decide +kernel
theorem d_Law_600 : decode code 600 = .ok (.iload_n 3, 1) := by decide +kernel
theorem d_Law_601 : decode code 601 = .ok (.iconst 1, 1) := by decide +kernel
theorem d_Law_602 : decode code 602 = .ok (.iadd, 1) := by decide +kernel
theorem d_Law_603 : decode code 603 = .ok (.iaload, 1) := by decide +kernel
theorem d_Law_604 : decode code 604 = .ok (.invokevirtual 58, 3) := by decide +kernel
theorem d_Law_607 : decode code 607 = .ok (.aload_n 2, 1) := by decide +kernel
theorem d_Law_608 : decode code 608 = .ok (.aload_n 0, 1) := by decide +kernel
theorem d_Law_609 : decode code 609 = .ok (.iload_n 3, 1) := by decide +kernel
theorem d_Law_610 : decode code 610 = .ok (.iconst 1, 1) := by decide +kernel
theorem d_Law_611 : decode code 611 = .ok (.iadd, 1) := by decide +kernel
theorem d_Law_612 : decode code 612 = .ok (.iaload, 1) := by decide +kernel
theorem d_Law_613 : decode code 613 = .ok (.invokevirtual 61, 3) := by decide +kernel
theorem d_Law_616 : decode code 616 = .ok (.if_icmp .eq 573, 3) := by decide +kernel
theorem d_Law_619 : decode code 619 = .ok (.iconst 0, 1) := by decide +kernel
theorem d_Law_620 : decode code 620 = .ok (.ireturn, 1) := by decide +kernel
theorem d_Law_621 : decode code 621 = .ok (.aload_n 1, 1) := by decide +kernel
theorem d_Law_622 : decode code 622 = .ok (.aload_n 0, 1) := by decide +kernel
theorem d_Law_623 : decode code 623 = .ok (.iload_n 3, 1) := by decide +kernel
theorem d_Law_624 : decode code 624 = .ok (.iconst 1, 1) := by decide +kernel
theorem d_Law_625 : decode code 625 = .ok (.iadd, 1) := by decide +kernel
theorem d_Law_626 : decode code 626 = .ok (.iaload, 1) := by decide +kernel
theorem d_Law_627 : decode code 627 = .ok (.invokevirtual 62, 3) := by decide +kernel
theorem d_Law_630 : decode code 630 = .ok (.aload_n 2, 1) := by decide +kernel
theorem d_Law_631 : decode code 631 = .ok (.aload_n 0, 1) := by decide +kernel
theorem d_Law_632 : decode code 632 = .ok (.iload_n 3, 1) := by decide +kernel
theorem d_Law_633 : decode code 633 = .ok (.iconst 1, 1) := by decide +kernel
theorem d_Law_634 : decode code 634 = .ok (.iadd, 1) := by decide +kernel
theorem d_Law_635 : decode code 635 = .ok (.iaload, 1) := by decide +kernel
theorem d_Law_636 : decode code 636 = .ok (.invokevirtual 65, 3) := by decide +kernel
theorem d_Law_639 : decode code 639 = .ok (.if_icmp .eq 550, 3) := by decide +kernel
theorem d_Law_642 : decode code 642 = .ok (.iconst 0, 1) := by decide +kernel
theorem d_Law_643 : decode code 643 = .ok (.ireturn, 1) := by decide +kernel
theorem d_Law_644 : decode code 644 = .ok (.aload_n 1, 1) := by decide +kernel
theorem d_Law_645 : decode code 645 = .ok (.aload_n 0, 1) := by decide +kernel
theorem d_Law_646 : decode code 646 = .ok (.iload_n 3, 1) := by decide +kernel
theorem d_Law_647 : decode code 647 = .ok (.iconst 1, 1) := by decide +kernel
theorem d_Law_648 : decode code 648 = .ok (.iadd, 1) := by decide +kernel
theorem d_Law_649 : decode code 649 = .ok (.iaload, 1) := by decide +kernel
theorem d_Law_650 : decode code 650 = .ok (.aload_n 0, 1) := by decide +kernel
theorem d_Law_651 : decode code 651 = .ok (.iload_n 3, 1) := by decide +kernel
theorem d_Law_652 : decode code 652 = .ok (.iconst 2, 1) := by decide +kernel
theorem d_Law_653 : decode code 653 = .ok (.iadd, 1) := by decide +kernel
theorem d_Law_654 : decode code 654 = .ok (.iaload, 1) := by decide +kernel
theorem d_Law_655 : decode code 655 = .ok (.invokevirtual 66, 3) := by decide +kernel
theorem d_Law_658 : decode code 658 = .ok (.aload_n 2, 1) := by decide +kernel
theorem d_Law_659 : decode code 659 = .ok (.aload_n 0, 1) := by decide +kernel
theorem d_Law_660 : decode code 660 = .ok (.iload_n 3, 1) := by decide +kernel
theorem d_Law_661 : decode code 661 = .ok (.iconst 1, 1) := by decide +kernel
theorem d_Law_662 : decode code 662 = .ok (.iadd, 1) := by decide +kernel
theorem d_Law_663 : decode code 663 = .ok (.iaload, 1) := by decide +kernel
theorem d_Law_664 : decode code 664 = .ok (.aload_n 0, 1) := by decide +kernel
theorem d_Law_665 : decode code 665 = .ok (.iload_n 3, 1) := by decide +kernel
theorem d_Law_666 : decode code 666 = .ok (.iconst 2, 1) := by decide +kernel
theorem d_Law_667 : decode code 667 = .ok (.iadd, 1) := by decide +kernel
theorem d_Law_668 : decode code 668 = .ok (.iaload, 1) := by decide +kernel
theorem d_Law_669 : decode code 669 = .ok (.invokevirtual 69, 3) := by decide +kernel
theorem d_Law_672 : decode code 672 = .ok (.if_icmp .eq 517, 3) := by decide +kernel
theorem d_Law_675 : decode code 675 = .ok (.iconst 0, 1) := by decide +kernel
theorem d_Law_676 : decode code 676 = .ok (.ireturn, 1) := by decide +kernel
theorem d_Law_677 : decode code 677 = .ok (.aload_n 1, 1) := by decide +kernel
theorem d_Law_678 : decode code 678 = .ok (.aload_n 0, 1) := by decide +kernel
theorem d_Law_679 : decode code 679 = .ok (.iload_n 3, 1) := by decide +kernel
theorem d_Law_680 : decode code 680 = .ok (.iconst 1, 1) := by decide +kernel
theorem d_Law_681 : decode code 681 = .ok (.iadd, 1) := by decide +kernel
theorem d_Law_682 : decode code 682 = .ok (.iaload, 1) := by decide +kernel
theorem d_Law_683 : decode code 683 = .ok (.aload_n 0, 1) := by decide +kernel
theorem d_Law_684 : decode code 684 = .ok (.iload_n 3, 1) := by decide +kernel
theorem d_Law_685 : decode code 685 = .ok (.iconst 2, 1) := by decide +kernel
theorem d_Law_686 : decode code 686 = .ok (.iadd, 1) := by decide +kernel
theorem d_Law_687 : decode code 687 = .ok (.iaload, 1) := by decide +kernel
theorem d_Law_688 : decode code 688 = .ok (.invokevirtual 70, 3) := by decide +kernel
theorem d_Law_691 : decode code 691 = .ok (.aload_n 2, 1) := by decide +kernel
theorem d_Law_692 : decode code 692 = .ok (.aload_n 0, 1) := by decide +kernel
theorem d_Law_693 : decode code 693 = .ok (.iload_n 3, 1) := by decide +kernel
theorem d_Law_694 : decode code 694 = .ok (.iconst 1, 1) := by decide +kernel
theorem d_Law_695 : decode code 695 = .ok (.iadd, 1) := by decide +kernel
theorem d_Law_696 : decode code 696 = .ok (.iaload, 1) := by decide +kernel
theorem d_Law_697 : decode code 697 = .ok (.aload_n 0, 1) := by decide +kernel
theorem d_Law_698 : decode code 698 = .ok (.iload_n 3, 1) := by decide +kernel
theorem d_Law_699 : decode code 699 = .ok (.iconst 2, 1) := by decide +kernel
theorem d_Law_700 : decode code 700 = .ok (.iadd, 1) := by decide +kernel
theorem d_Law_701 : decode code 701 = .ok (.iaload, 1) := by decide +kernel
theorem d_Law_702 : decode code 702 = .ok (.invokevirtual 73, 3) := by decide +kernel
theorem d_Law_705 : decode code 705 = .ok (.if_icmp .eq 484, 3) := by decide +kernel
theorem d_Law_708 : decode code 708 = .ok (.iconst 0, 1) := by decide +kernel
theorem d_Law_709 : decode code 709 = .ok (.ireturn, 1) := by decide +kernel
theorem d_Law_710 : decode code 710 = .ok (.aload_n 1, 1) := by decide +kernel
theorem d_Law_711 : decode code 711 = .ok (.aload_n 0, 1) := by decide +kernel
theorem d_Law_712 : decode code 712 = .ok (.iload_n 3, 1) := by decide +kernel
theorem d_Law_713 : decode code 713 = .ok (.iconst 1, 1) := by decide +kernel
theorem d_Law_714 : decode code 714 = .ok (.iadd, 1) := by decide +kernel
theorem d_Law_715 : decode code 715 = .ok (.iaload, 1) := by decide +kernel
theorem d_Law_716 : decode code 716 = .ok (.aload_n 0, 1) := by decide +kernel
theorem d_Law_717 : decode code 717 = .ok (.iload_n 3, 1) := by decide +kernel
theorem d_Law_718 : decode code 718 = .ok (.iconst 2, 1) := by decide +kernel
theorem d_Law_719 : decode code 719 = .ok (.iadd, 1) := by decide +kernel
theorem d_Law_720 : decode code 720 = .ok (.iaload, 1) := by decide +kernel
theorem d_Law_721 : decode code 721 = .ok (.invokevirtual 74, 3) := by decide +kernel
theorem d_Law_724 : decode code 724 = .ok (.aload_n 2, 1) := by decide +kernel
theorem d_Law_725 : decode code 725 = .ok (.aload_n 0, 1) := by decide +kernel
theorem d_Law_726 : decode code 726 = .ok (.iload_n 3, 1) := by decide +kernel
theorem d_Law_727 : decode code 727 = .ok (.iconst 1, 1) := by decide +kernel
theorem d_Law_728 : decode code 728 = .ok (.iadd, 1) := by decide +kernel
theorem d_Law_729 : decode code 729 = .ok (.iaload, 1) := by decide +kernel
theorem d_Law_730 : decode code 730 = .ok (.aload_n 0, 1) := by decide +kernel
theorem d_Law_731 : decode code 731 = .ok (.iload_n 3, 1) := by decide +kernel
theorem d_Law_732 : decode code 732 = .ok (.iconst 2, 1) := by decide +kernel
theorem d_Law_733 : decode code 733 = .ok (.iadd, 1) := by decide +kernel
theorem d_Law_734 : decode code 734 = .ok (.iaload, 1) := by decide +kernel
theorem d_Law_735 : decode code 735 = .ok (.invokevirtual 77, 3) := by decide +kernel
theorem d_Law_738 : decode code 738 = .ok (.if_icmp .eq 451, 3) := by decide +kernel
theorem d_Law_741 : decode code 741 = .ok (.iconst 0, 1) := by decide +kernel
theorem d_Law_742 : decode code 742 = .ok (.ireturn, 1) := by decide +kernel
theorem d_Law_743 : decode code 743 = .ok (.aload_n 1, 1) := by decide +kernel
theorem d_Law_744 : decode code 744 = .ok (.aload_n 0, 1) := by decide +kernel
theorem d_Law_745 : decode code 745 = .ok (.iload_n 3, 1) := by decide +kernel
theorem d_Law_746 : decode code 746 = .ok (.iconst 1, 1) := by decide +kernel
theorem d_Law_747 : decode code 747 = .ok (.iadd, 1) := by decide +kernel
theorem d_Law_748 : decode code 748 = .ok (.iaload, 1) := by decide +kernel
theorem d_Law_749 : decode code 749 = .ok (.invokevirtual 78, 3) := by decide +kernel
theorem d_Law_752 : decode code 752 = .ok (.aload_n 2, 1) := by decide +kernel
theorem d_Law_753 : decode code 753 = .ok (.aload_n 0, 1) := by decide +kernel
theorem d_Law_754 : decode code 754 = .ok (.iload_n 3, 1) := by decide +kernel
theorem d_Law_755 : decode code 755 = .ok (.iconst 1, 1) := by decide +kernel
theorem d_Law_756 : decode code 756 = .ok (.iadd, 1) := by decide +kernel
theorem d_Law_757 : decode code 757 = .ok (.iaload, 1) := by decide +kernel
theorem d_Law_758 : decode code 758 = .ok (.invokevirtual 81, 3) := by decide +kernel
theorem d_Law_761 : decode code 761 = .ok (.if_icmp .eq 428, 3) := by decide +kernel
theorem d_Law_764 : decode code 764 = .ok (.iconst 0, 1) := by decide +kernel
theorem d_Law_765 : decode code 765 = .ok (.ireturn, 1) := by decide +kernel
theorem d_Law_766 : decode code 766 = .ok (.aload_n 1, 1) := by decide +kernel
theorem d_Law_767 : decode code 767 = .ok (.aload_n 0, 1) := by decide +kernel
theorem d_Law_768 : decode code 768 = .ok (.iload_n 3, 1) := by decide +kernel
theorem d_Law_769 : decode code 769 = .ok (.iconst 1, 1) := by decide +kernel
theorem d_Law_770 : decode code 770 = .ok (.iadd, 1) := by decide +kernel
theorem d_Law_771 : decode code 771 = .ok (.iaload, 1) := by decide +kernel
theorem d_Law_772 : decode code 772 = .ok (.aload_n 0, 1) := by decide +kernel
theorem d_Law_773 : decode code 773 = .ok (.iload_n 3, 1) := by decide +kernel
theorem d_Law_774 : decode code 774 = .ok (.iconst 2, 1) := by decide +kernel
theorem d_Law_775 : decode code 775 = .ok (.iadd, 1) := by decide +kernel
theorem d_Law_776 : decode code 776 = .ok (.iaload, 1) := by decide +kernel
theorem d_Law_777 : decode code 777 = .ok (.invokevirtual 82, 3) := by decide +kernel
theorem d_Law_780 : decode code 780 = .ok (.aload_n 2, 1) := by decide +kernel
theorem d_Law_781 : decode code 781 = .ok (.aload_n 0, 1) := by decide +kernel
theorem d_Law_782 : decode code 782 = .ok (.iload_n 3, 1) := by decide +kernel
theorem d_Law_783 : decode code 783 = .ok (.iconst 1, 1) := by decide +kernel
theorem d_Law_784 : decode code 784 = .ok (.iadd, 1) := by decide +kernel
theorem d_Law_785 : decode code 785 = .ok (.iaload, 1) := by decide +kernel
theorem d_Law_786 : decode code 786 = .ok (.aload_n 0, 1) := by decide +kernel
theorem d_Law_787 : decode code 787 = .ok (.iload_n 3, 1) := by decide +kernel
theorem d_Law_788 : decode code 788 = .ok (.iconst 2, 1) := by decide +kernel
theorem d_Law_789 : decode code 789 = .ok (.iadd, 1) := by decide +kernel
theorem d_Law_790 : decode code 790 = .ok (.iaload, 1) := by decide +kernel
theorem d_Law_791 : decode code 791 = .ok (.invokevirtual 85, 3) := by decide +kernel
theorem d_Law_794 : decode code 794 = .ok (.if_icmp .eq 395, 3) := by decide +kernel
theorem d_Law_797 : decode code 797 = .ok (.iconst 0, 1) := by decide +kernel
theorem d_Law_798 : decode code 798 = .ok (.ireturn, 1) := by decide +kernel
theorem d_Law_799 : decode code 799 = .ok (.aload_n 1, 1) := by decide +kernel
theorem d_Law_800 : decode code 800 = .ok (.aload_n 0, 1) := by decide +kernel
theorem d_Law_801 : decode code 801 = .ok (.iload_n 3, 1) := by decide +kernel
theorem d_Law_802 : decode code 802 = .ok (.iconst 1, 1) := by decide +kernel
theorem d_Law_803 : decode code 803 = .ok (.iadd, 1) := by decide +kernel
theorem d_Law_804 : decode code 804 = .ok (.iaload, 1) := by decide +kernel
theorem d_Law_805 : decode code 805 = .ok (.aload_n 0, 1) := by decide +kernel
theorem d_Law_806 : decode code 806 = .ok (.iload_n 3, 1) := by decide +kernel
theorem d_Law_807 : decode code 807 = .ok (.iconst 2, 1) := by decide +kernel
theorem d_Law_808 : decode code 808 = .ok (.iadd, 1) := by decide +kernel
theorem d_Law_809 : decode code 809 = .ok (.iaload, 1) := by decide +kernel
theorem d_Law_810 : decode code 810 = .ok (.invokevirtual 86, 3) := by decide +kernel
theorem d_Law_813 : decode code 813 = .ok (.aload_n 2, 1) := by decide +kernel
theorem d_Law_814 : decode code 814 = .ok (.aload_n 0, 1) := by decide +kernel
theorem d_Law_815 : decode code 815 = .ok (.iload_n 3, 1) := by decide +kernel
theorem d_Law_816 : decode code 816 = .ok (.iconst 1, 1) := by decide +kernel
theorem d_Law_817 : decode code 817 = .ok (.iadd, 1) := by decide +kernel
theorem d_Law_818 : decode code 818 = .ok (.iaload, 1) := by decide +kernel
theorem d_Law_819 : decode code 819 = .ok (.aload_n 0, 1) := by decide +kernel
theorem d_Law_820 : decode code 820 = .ok (.iload_n 3, 1) := by decide +kernel
theorem d_Law_821 : decode code 821 = .ok (.iconst 2, 1) := by decide +kernel
theorem d_Law_822 : decode code 822 = .ok (.iadd, 1) := by decide +kernel
theorem d_Law_823 : decode code 823 = .ok (.iaload, 1) := by decide +kernel
theorem d_Law_824 : decode code 824 = .ok (.invokevirtual 89, 3) := by decide +kernel
theorem d_Law_827 : decode code 827 = .ok (.if_icmp .eq 362, 3) := by decide +kernel
theorem d_Law_830 : decode code 830 = .ok (.iconst 0, 1) := by decide +kernel
theorem d_Law_831 : decode code 831 = .ok (.ireturn, 1) := by decide +kernel
theorem d_Law_832 : decode code 832 = .ok (.aload_n 1, 1) := by decide +kernel
theorem d_Law_833 : decode code 833 = .ok (.aload_n 0, 1) := by decide +kernel
theorem d_Law_834 : decode code 834 = .ok (.iload_n 3, 1) := by decide +kernel
theorem d_Law_835 : decode code 835 = .ok (.iconst 1, 1) := by decide +kernel
theorem d_Law_836 : decode code 836 = .ok (.iadd, 1) := by decide +kernel
theorem d_Law_837 : decode code 837 = .ok (.iaload, 1) := by decide +kernel
theorem d_Law_838 : decode code 838 = .ok (.invokevirtual 90, 3) := by decide +kernel
theorem d_Law_841 : decode code 841 = .ok (.aload_n 2, 1) := by decide +kernel
theorem d_Law_842 : decode code 842 = .ok (.aload_n 0, 1) := by decide +kernel
theorem d_Law_843 : decode code 843 = .ok (.iload_n 3, 1) := by decide +kernel
theorem d_Law_844 : decode code 844 = .ok (.iconst 1, 1) := by decide +kernel
theorem d_Law_845 : decode code 845 = .ok (.iadd, 1) := by decide +kernel
theorem d_Law_846 : decode code 846 = .ok (.iaload, 1) := by decide +kernel
theorem d_Law_847 : decode code 847 = .ok (.invokevirtual 93, 3) := by decide +kernel
theorem d_Law_850 : decode code 850 = .ok (.if_icmp .eq 339, 3) := by decide +kernel
theorem d_Law_853 : decode code 853 = .ok (.iconst 0, 1) := by decide +kernel
theorem d_Law_854 : decode code 854 = .ok (.ireturn, 1) := by decide +kernel
theorem d_Law_855 : decode code 855 = .ok (.aload_n 1, 1) := by decide +kernel
theorem d_Law_856 : decode code 856 = .ok (.aload_n 0, 1) := by decide +kernel
theorem d_Law_857 : decode code 857 = .ok (.iload_n 3, 1) := by decide +kernel
theorem d_Law_858 : decode code 858 = .ok (.iconst 1, 1) := by decide +kernel
theorem d_Law_859 : decode code 859 = .ok (.iadd, 1) := by decide +kernel
theorem d_Law_860 : decode code 860 = .ok (.iaload, 1) := by decide +kernel
theorem d_Law_861 : decode code 861 = .ok (.aload_n 0, 1) := by decide +kernel
theorem d_Law_862 : decode code 862 = .ok (.iload_n 3, 1) := by decide +kernel
theorem d_Law_863 : decode code 863 = .ok (.iconst 2, 1) := by decide +kernel
theorem d_Law_864 : decode code 864 = .ok (.iadd, 1) := by decide +kernel
theorem d_Law_865 : decode code 865 = .ok (.iaload, 1) := by decide +kernel
theorem d_Law_866 : decode code 866 = .ok (.invokevirtual 94, 3) := by decide +kernel
theorem d_Law_869 : decode code 869 = .ok (.aload_n 2, 1) := by decide +kernel
theorem d_Law_870 : decode code 870 = .ok (.aload_n 0, 1) := by decide +kernel
theorem d_Law_871 : decode code 871 = .ok (.iload_n 3, 1) := by decide +kernel
theorem d_Law_872 : decode code 872 = .ok (.iconst 1, 1) := by decide +kernel
theorem d_Law_873 : decode code 873 = .ok (.iadd, 1) := by decide +kernel
theorem d_Law_874 : decode code 874 = .ok (.iaload, 1) := by decide +kernel
theorem d_Law_875 : decode code 875 = .ok (.aload_n 0, 1) := by decide +kernel
theorem d_Law_876 : decode code 876 = .ok (.iload_n 3, 1) := by decide +kernel
theorem d_Law_877 : decode code 877 = .ok (.iconst 2, 1) := by decide +kernel
theorem d_Law_878 : decode code 878 = .ok (.iadd, 1) := by decide +kernel
theorem d_Law_879 : decode code 879 = .ok (.iaload, 1) := by decide +kernel
theorem d_Law_880 : decode code 880 = .ok (.invokevirtual 97, 3) := by decide +kernel
theorem d_Law_883 : decode code 883 = .ok (.if_icmp .eq 306, 3) := by decide +kernel
theorem d_Law_886 : decode code 886 = .ok (.iconst 0, 1) := by decide +kernel
theorem d_Law_887 : decode code 887 = .ok (.ireturn, 1) := by decide +kernel
theorem d_Law_888 : decode code 888 = .ok (.aload_n 1, 1) := by decide +kernel
theorem d_Law_889 : decode code 889 = .ok (.aload_n 0, 1) := by decide +kernel
theorem d_Law_890 : decode code 890 = .ok (.iload_n 3, 1) := by decide +kernel
theorem d_Law_891 : decode code 891 = .ok (.iconst 1, 1) := by decide +kernel
theorem d_Law_892 : decode code 892 = .ok (.iadd, 1) := by decide +kernel
theorem d_Law_893 : decode code 893 = .ok (.iaload, 1) := by decide +kernel
theorem d_Law_894 : decode code 894 = .ok (.aload_n 0, 1) := by decide +kernel
theorem d_Law_895 : decode code 895 = .ok (.iload_n 3, 1) := by decide +kernel
theorem d_Law_896 : decode code 896 = .ok (.iconst 2, 1) := by decide +kernel
theorem d_Law_897 : decode code 897 = .ok (.iadd, 1) := by decide +kernel
theorem d_Law_898 : decode code 898 = .ok (.iaload, 1) := by decide +kernel
theorem d_Law_899 : decode code 899 = .ok (.aload_n 0, 1) := by decide +kernel
theorem d_Law_900 : decode code 900 = .ok (.iload_n 3, 1) := by decide +kernel
theorem d_Law_901 : decode code 901 = .ok (.iconst 3, 1) := by decide +kernel
theorem d_Law_902 : decode code 902 = .ok (.iadd, 1) := by decide +kernel
theorem d_Law_903 : decode code 903 = .ok (.iaload, 1) := by decide +kernel
theorem d_Law_904 : decode code 904 = .ok (.invokevirtual 98, 3) := by decide +kernel
theorem d_Law_907 : decode code 907 = .ok (.aload_n 2, 1) := by decide +kernel
theorem d_Law_908 : decode code 908 = .ok (.aload_n 0, 1) := by decide +kernel
theorem d_Law_909 : decode code 909 = .ok (.iload_n 3, 1) := by decide +kernel
theorem d_Law_910 : decode code 910 = .ok (.iconst 1, 1) := by decide +kernel
theorem d_Law_911 : decode code 911 = .ok (.iadd, 1) := by decide +kernel
theorem d_Law_912 : decode code 912 = .ok (.iaload, 1) := by decide +kernel
theorem d_Law_913 : decode code 913 = .ok (.aload_n 0, 1) := by decide +kernel
theorem d_Law_914 : decode code 914 = .ok (.iload_n 3, 1) := by decide +kernel
theorem d_Law_915 : decode code 915 = .ok (.iconst 2, 1) := by decide +kernel
theorem d_Law_916 : decode code 916 = .ok (.iadd, 1) := by decide +kernel
theorem d_Law_917 : decode code 917 = .ok (.iaload, 1) := by decide +kernel
theorem d_Law_918 : decode code 918 = .ok (.aload_n 0, 1) := by decide +kernel
theorem d_Law_919 : decode code 919 = .ok (.iload_n 3, 1) := by decide +kernel
theorem d_Law_920 : decode code 920 = .ok (.iconst 3, 1) := by decide +kernel
theorem d_Law_921 : decode code 921 = .ok (.iadd, 1) := by decide +kernel
theorem d_Law_922 : decode code 922 = .ok (.iaload, 1) := by decide +kernel
theorem d_Law_923 : decode code 923 = .ok (.invokevirtual 101, 3) := by decide +kernel
theorem d_Law_926 : decode code 926 = .ok (.if_icmp .eq 263, 3) := by decide +kernel
theorem d_Law_929 : decode code 929 = .ok (.iconst 0, 1) := by decide +kernel
theorem d_Law_930 : decode code 930 = .ok (.ireturn, 1) := by decide +kernel
theorem d_Law_931 : decode code 931 = .ok (.aload_n 1, 1) := by decide +kernel
theorem d_Law_932 : decode code 932 = .ok (.aload_n 0, 1) := by decide +kernel
theorem d_Law_933 : decode code 933 = .ok (.iload_n 3, 1) := by decide +kernel
theorem d_Law_934 : decode code 934 = .ok (.iconst 1, 1) := by decide +kernel
theorem d_Law_935 : decode code 935 = .ok (.iadd, 1) := by decide +kernel
theorem d_Law_936 : decode code 936 = .ok (.iaload, 1) := by decide +kernel
theorem d_Law_937 : decode code 937 = .ok (.aload_n 0, 1) := by decide +kernel
theorem d_Law_938 : decode code 938 = .ok (.iload_n 3, 1) := by decide +kernel
theorem d_Law_939 : decode code 939 = .ok (.iconst 2, 1) := by decide +kernel
theorem d_Law_940 : decode code 940 = .ok (.iadd, 1) := by decide +kernel
theorem d_Law_941 : decode code 941 = .ok (.iaload, 1) := by decide +kernel
theorem d_Law_942 : decode code 942 = .ok (.invokevirtual 102, 3) := by decide +kernel
theorem d_Law_945 : decode code 945 = .ok (.aload_n 2, 1) := by decide +kernel
theorem d_Law_946 : decode code 946 = .ok (.aload_n 0, 1) := by decide +kernel
theorem d_Law_947 : decode code 947 = .ok (.iload_n 3, 1) := by decide +kernel
theorem d_Law_948 : decode code 948 = .ok (.iconst 1, 1) := by decide +kernel
theorem d_Law_949 : decode code 949 = .ok (.iadd, 1) := by decide +kernel
theorem d_Law_950 : decode code 950 = .ok (.iaload, 1) := by decide +kernel
theorem d_Law_951 : decode code 951 = .ok (.aload_n 0, 1) := by decide +kernel
theorem d_Law_952 : decode code 952 = .ok (.iload_n 3, 1) := by decide +kernel
theorem d_Law_953 : decode code 953 = .ok (.iconst 2, 1) := by decide +kernel
theorem d_Law_954 : decode code 954 = .ok (.iadd, 1) := by decide +kernel
theorem d_Law_955 : decode code 955 = .ok (.iaload, 1) := by decide +kernel
theorem d_Law_956 : decode code 956 = .ok (.invokevirtual 105, 3) := by decide +kernel
theorem d_Law_959 : decode code 959 = .ok (.if_icmp .eq 230, 3) := by decide +kernel
theorem d_Law_962 : decode code 962 = .ok (.iconst 0, 1) := by decide +kernel
theorem d_Law_963 : decode code 963 = .ok (.ireturn, 1) := by decide +kernel
theorem d_Law_964 : decode code 964 = .ok (.aload_n 1, 1) := by decide +kernel
theorem d_Law_965 : decode code 965 = .ok (.aload_n 0, 1) := by decide +kernel
theorem d_Law_966 : decode code 966 = .ok (.iload_n 3, 1) := by decide +kernel
theorem d_Law_967 : decode code 967 = .ok (.iconst 1, 1) := by decide +kernel
theorem d_Law_968 : decode code 968 = .ok (.iadd, 1) := by decide +kernel
theorem d_Law_969 : decode code 969 = .ok (.iaload, 1) := by decide +kernel
theorem d_Law_970 : decode code 970 = .ok (.invokevirtual 106, 3) := by decide +kernel
theorem d_Law_973 : decode code 973 = .ok (.aload_n 2, 1) := by decide +kernel
theorem d_Law_974 : decode code 974 = .ok (.aload_n 0, 1) := by decide +kernel
theorem d_Law_975 : decode code 975 = .ok (.iload_n 3, 1) := by decide +kernel
theorem d_Law_976 : decode code 976 = .ok (.iconst 1, 1) := by decide +kernel
theorem d_Law_977 : decode code 977 = .ok (.iadd, 1) := by decide +kernel
theorem d_Law_978 : decode code 978 = .ok (.iaload, 1) := by decide +kernel
theorem d_Law_979 : decode code 979 = .ok (.invokevirtual 109, 3) := by decide +kernel
theorem d_Law_982 : decode code 982 = .ok (.if_icmp .eq 207, 3) := by decide +kernel
theorem d_Law_985 : decode code 985 = .ok (.iconst 0, 1) := by decide +kernel
theorem d_Law_986 : decode code 986 = .ok (.ireturn, 1) := by decide +kernel
theorem d_Law_987 : decode code 987 = .ok (.aload_n 1, 1) := by decide +kernel
theorem d_Law_988 : decode code 988 = .ok (.aload_n 0, 1) := by decide +kernel
theorem d_Law_989 : decode code 989 = .ok (.iload_n 3, 1) := by decide +kernel
theorem d_Law_990 : decode code 990 = .ok (.iconst 1, 1) := by decide +kernel
theorem d_Law_991 : decode code 991 = .ok (.iadd, 1) := by decide +kernel
theorem d_Law_992 : decode code 992 = .ok (.iaload, 1) := by decide +kernel
theorem d_Law_993 : decode code 993 = .ok (.aload_n 0, 1) := by decide +kernel
theorem d_Law_994 : decode code 994 = .ok (.iload_n 3, 1) := by decide +kernel
theorem d_Law_995 : decode code 995 = .ok (.iconst 2, 1) := by decide +kernel
theorem d_Law_996 : decode code 996 = .ok (.iadd, 1) := by decide +kernel
theorem d_Law_997 : decode code 997 = .ok (.iaload, 1) := by decide +kernel
theorem d_Law_998 : decode code 998 = .ok (.invokevirtual 110, 3) := by decide +kernel
theorem d_Law_1001 : decode code 1001 = .ok (.aload_n 2, 1) := by decide +kernel
theorem d_Law_1002 : decode code 1002 = .ok (.aload_n 0, 1) := by decide +kernel
theorem d_Law_1003 : decode code 1003 = .ok (.iload_n 3, 1) := by decide +kernel
theorem d_Law_1004 : decode code 1004 = .ok (.iconst 1, 1) := by decide +kernel
theorem d_Law_1005 : decode code 1005 = .ok (.iadd, 1) := by decide +kernel
theorem d_Law_1006 : decode code 1006 = .ok (.iaload, 1) := by decide +kernel
theorem d_Law_1007 : decode code 1007 = .ok (.aload_n 0, 1) := by decide +kernel
theorem d_Law_1008 : decode code 1008 = .ok (.iload_n 3, 1) := by decide +kernel
theorem d_Law_1009 : decode code 1009 = .ok (.iconst 2, 1) := by decide +kernel
theorem d_Law_1010 : decode code 1010 = .ok (.iadd, 1) := by decide +kernel
theorem d_Law_1011 : decode code 1011 = .ok (.iaload, 1) := by decide +kernel
theorem d_Law_1012 : decode code 1012 = .ok (.invokevirtual 114, 3) := by decide +kernel
theorem d_Law_1015 : decode code 1015 = .ok (.lcmp, 1) := by decide +kernel
theorem d_Law_1016 : decode code 1016 = .ok (.ifCond .eq 173, 3) := by decide +kernel
theorem d_Law_1019 : decode code 1019 = .ok (.iconst 0, 1) := by decide +kernel
theorem d_Law_1020 : decode code 1020 = .ok (.ireturn, 1) := by decide +kernel
theorem d_Law_1021 : decode code 1021 = .ok (.aload_n 1, 1) := by decide +kernel
theorem d_Law_1022 : decode code 1022 = .ok (.aload_n 0, 1) := by decide +kernel
theorem d_Law_1023 : decode code 1023 = .ok (.iload_n 3, 1) := by decide +kernel
theorem d_Law_1024 : decode code 1024 = .ok (.iconst 1, 1) := by decide +kernel
theorem d_Law_1025 : decode code 1025 = .ok (.iadd, 1) := by decide +kernel
theorem d_Law_1026 : decode code 1026 = .ok (.iaload, 1) := by decide +kernel
theorem d_Law_1027 : decode code 1027 = .ok (.aload_n 0, 1) := by decide +kernel
theorem d_Law_1028 : decode code 1028 = .ok (.iload_n 3, 1) := by decide +kernel
theorem d_Law_1029 : decode code 1029 = .ok (.iconst 2, 1) := by decide +kernel
theorem d_Law_1030 : decode code 1030 = .ok (.iadd, 1) := by decide +kernel
theorem d_Law_1031 : decode code 1031 = .ok (.iaload, 1) := by decide +kernel
theorem d_Law_1032 : decode code 1032 = .ok (.invokevirtual 115, 3) := by decide +kernel
theorem d_Law_1035 : decode code 1035 = .ok (.aload_n 2, 1) := by decide +kernel
theorem d_Law_1036 : decode code 1036 = .ok (.aload_n 0, 1) := by decide +kernel
theorem d_Law_1037 : decode code 1037 = .ok (.iload_n 3, 1) := by decide +kernel
theorem d_Law_1038 : decode code 1038 = .ok (.iconst 1, 1) := by decide +kernel
theorem d_Law_1039 : decode code 1039 = .ok (.iadd, 1) := by decide +kernel
theorem d_Law_1040 : decode code 1040 = .ok (.iaload, 1) := by decide +kernel
theorem d_Law_1041 : decode code 1041 = .ok (.aload_n 0, 1) := by decide +kernel
theorem d_Law_1042 : decode code 1042 = .ok (.iload_n 3, 1) := by decide +kernel
theorem d_Law_1043 : decode code 1043 = .ok (.iconst 2, 1) := by decide +kernel
theorem d_Law_1044 : decode code 1044 = .ok (.iadd, 1) := by decide +kernel
theorem d_Law_1045 : decode code 1045 = .ok (.iaload, 1) := by decide +kernel
theorem d_Law_1046 : decode code 1046 = .ok (.invokevirtual 118, 3) := by decide +kernel
theorem d_Law_1049 : decode code 1049 = .ok (.if_icmp .eq 140, 3) := by decide +kernel
theorem d_Law_1052 : decode code 1052 = .ok (.iconst 0, 1) := by decide +kernel
theorem d_Law_1053 : decode code 1053 = .ok (.ireturn, 1) := by decide +kernel
theorem d_Law_1054 : decode code 1054 = .ok (.aload_n 1, 1) := by decide +kernel
theorem d_Law_1055 : decode code 1055 = .ok (.aload_n 0, 1) := by decide +kernel
theorem d_Law_1056 : decode code 1056 = .ok (.iload_n 3, 1) := by decide +kernel
theorem d_Law_1057 : decode code 1057 = .ok (.iconst 1, 1) := by decide +kernel
theorem d_Law_1058 : decode code 1058 = .ok (.iadd, 1) := by decide +kernel
theorem d_Law_1059 : decode code 1059 = .ok (.iaload, 1) := by decide +kernel
theorem d_Law_1060 : decode code 1060 = .ok (.aload_n 0, 1) := by decide +kernel
theorem d_Law_1061 : decode code 1061 = .ok (.iload_n 3, 1) := by decide +kernel
theorem d_Law_1062 : decode code 1062 = .ok (.iconst 2, 1) := by decide +kernel
theorem d_Law_1063 : decode code 1063 = .ok (.iadd, 1) := by decide +kernel
theorem d_Law_1064 : decode code 1064 = .ok (.iaload, 1) := by decide +kernel
theorem d_Law_1065 : decode code 1065 = .ok (.invokevirtual 119, 3) := by decide +kernel
theorem d_Law_1068 : decode code 1068 = .ok (.aload_n 2, 1) := by decide +kernel
theorem d_Law_1069 : decode code 1069 = .ok (.aload_n 0, 1) := by decide +kernel
theorem d_Law_1070 : decode code 1070 = .ok (.iload_n 3, 1) := by decide +kernel
theorem d_Law_1071 : decode code 1071 = .ok (.iconst 1, 1) := by decide +kernel
theorem d_Law_1072 : decode code 1072 = .ok (.iadd, 1) := by decide +kernel
theorem d_Law_1073 : decode code 1073 = .ok (.iaload, 1) := by decide +kernel
theorem d_Law_1074 : decode code 1074 = .ok (.aload_n 0, 1) := by decide +kernel
theorem d_Law_1075 : decode code 1075 = .ok (.iload_n 3, 1) := by decide +kernel
theorem d_Law_1076 : decode code 1076 = .ok (.iconst 2, 1) := by decide +kernel
theorem d_Law_1077 : decode code 1077 = .ok (.iadd, 1) := by decide +kernel
theorem d_Law_1078 : decode code 1078 = .ok (.iaload, 1) := by decide +kernel
theorem d_Law_1079 : decode code 1079 = .ok (.invokevirtual 122, 3) := by decide +kernel
theorem d_Law_1082 : decode code 1082 = .ok (.if_icmp .eq 107, 3) := by decide +kernel
theorem d_Law_1085 : decode code 1085 = .ok (.iconst 0, 1) := by decide +kernel
theorem d_Law_1086 : decode code 1086 = .ok (.ireturn, 1) := by decide +kernel
theorem d_Law_1087 : decode code 1087 = .ok (.aload_n 1, 1) := by decide +kernel
theorem d_Law_1088 : decode code 1088 = .ok (.aload_n 0, 1) := by decide +kernel
theorem d_Law_1089 : decode code 1089 = .ok (.iload_n 3, 1) := by decide +kernel
theorem d_Law_1090 : decode code 1090 = .ok (.iconst 1, 1) := by decide +kernel
theorem d_Law_1091 : decode code 1091 = .ok (.iadd, 1) := by decide +kernel
theorem d_Law_1092 : decode code 1092 = .ok (.iaload, 1) := by decide +kernel
theorem d_Law_1093 : decode code 1093 = .ok (.invokevirtual 123, 3) := by decide +kernel
theorem d_Law_1096 : decode code 1096 = .ok (.aload_n 2, 1) := by decide +kernel
theorem d_Law_1097 : decode code 1097 = .ok (.aload_n 0, 1) := by decide +kernel
theorem d_Law_1098 : decode code 1098 = .ok (.iload_n 3, 1) := by decide +kernel
theorem d_Law_1099 : decode code 1099 = .ok (.iconst 1, 1) := by decide +kernel
theorem d_Law_1100 : decode code 1100 = .ok (.iadd, 1) := by decide +kernel
theorem d_Law_1101 : decode code 1101 = .ok (.iaload, 1) := by decide +kernel
theorem d_Law_1102 : decode code 1102 = .ok (.invokevirtual 126, 3) := by decide +kernel
theorem d_Law_1105 : decode code 1105 = .ok (.if_icmp .eq 84, 3) := by decide +kernel
theorem d_Law_1108 : decode code 1108 = .ok (.iconst 0, 1) := by decide +kernel
theorem d_Law_1109 : decode code 1109 = .ok (.ireturn, 1) := by decide +kernel
theorem d_Law_1110 : decode code 1110 = .ok (.aload_n 1, 1) := by decide +kernel
theorem d_Law_1111 : decode code 1111 = .ok (.aload_n 0, 1) := by decide +kernel
theorem d_Law_1112 : decode code 1112 = .ok (.iload_n 3, 1) := by decide +kernel
theorem d_Law_1113 : decode code 1113 = .ok (.iconst 1, 1) := by decide +kernel
theorem d_Law_1114 : decode code 1114 = .ok (.iadd, 1) := by decide +kernel
theorem d_Law_1115 : decode code 1115 = .ok (.iaload, 1) := by decide +kernel
theorem d_Law_1116 : decode code 1116 = .ok (.aload_n 0, 1) := by decide +kernel
theorem d_Law_1117 : decode code 1117 = .ok (.iload_n 3, 1) := by decide +kernel
theorem d_Law_1118 : decode code 1118 = .ok (.iconst 2, 1) := by decide +kernel
theorem d_Law_1119 : decode code 1119 = .ok (.iadd, 1) := by decide +kernel
theorem d_Law_1120 : decode code 1120 = .ok (.iaload, 1) := by decide +kernel
theorem d_Law_1121 : decode code 1121 = .ok (.aload_n 0, 1) := by decide +kernel
theorem d_Law_1122 : decode code 1122 = .ok (.iload_n 3, 1) := by decide +kernel
theorem d_Law_1123 : decode code 1123 = .ok (.iconst 3, 1) := by decide +kernel
theorem d_Law_1124 : decode code 1124 = .ok (.iadd, 1) := by decide +kernel
theorem d_Law_1125 : decode code 1125 = .ok (.iaload, 1) := by decide +kernel
theorem d_Law_1126 : decode code 1126 = .ok (.invokevirtual 127, 3) := by decide +kernel
theorem d_Law_1129 : decode code 1129 = .ok (.aload_n 2, 1) := by decide +kernel
theorem d_Law_1130 : decode code 1130 = .ok (.aload_n 0, 1) := by decide +kernel
theorem d_Law_1131 : decode code 1131 = .ok (.iload_n 3, 1) := by decide +kernel
theorem d_Law_1132 : decode code 1132 = .ok (.iconst 1, 1) := by decide +kernel
theorem d_Law_1133 : decode code 1133 = .ok (.iadd, 1) := by decide +kernel
theorem d_Law_1134 : decode code 1134 = .ok (.iaload, 1) := by decide +kernel
theorem d_Law_1135 : decode code 1135 = .ok (.aload_n 0, 1) := by decide +kernel
theorem d_Law_1136 : decode code 1136 = .ok (.iload_n 3, 1) := by decide +kernel
theorem d_Law_1137 : decode code 1137 = .ok (.iconst 2, 1) := by decide +kernel
theorem d_Law_1138 : decode code 1138 = .ok (.iadd, 1) := by decide +kernel
theorem d_Law_1139 : decode code 1139 = .ok (.iaload, 1) := by decide +kernel
theorem d_Law_1140 : decode code 1140 = .ok (.aload_n 0, 1) := by decide +kernel
theorem d_Law_1141 : decode code 1141 = .ok (.iload_n 3, 1) := by decide +kernel
theorem d_Law_1142 : decode code 1142 = .ok (.iconst 3, 1) := by decide +kernel
theorem d_Law_1143 : decode code 1143 = .ok (.iadd, 1) := by decide +kernel
theorem d_Law_1144 : decode code 1144 = .ok (.iaload, 1) := by decide +kernel
theorem d_Law_1145 : decode code 1145 = .ok (.invokevirtual 130, 3) := by decide +kernel
theorem d_Law_1148 : decode code 1148 = .ok (.if_icmp .eq 41, 3) := by decide +kernel
theorem d_Law_1151 : decode code 1151 = .ok (.iconst 0, 1) := by decide +kernel
theorem d_Law_1152 : decode code 1152 = .ok (.ireturn, 1) := by decide +kernel
theorem d_Law_1153 : decode code 1153 = .ok (.aload_n 1, 1) := by decide +kernel
theorem d_Law_1154 : decode code 1154 = .ok (.aload_n 0, 1) := by decide +kernel
theorem d_Law_1155 : decode code 1155 = .ok (.iload_n 3, 1) := by decide +kernel
theorem d_Law_1156 : decode code 1156 = .ok (.iconst 1, 1) := by decide +kernel
theorem d_Law_1157 : decode code 1157 = .ok (.iadd, 1) := by decide +kernel
theorem d_Law_1158 : decode code 1158 = .ok (.iaload, 1) := by decide +kernel
theorem d_Law_1159 : decode code 1159 = .ok (.invokevirtual 131, 3) := by decide +kernel
theorem d_Law_1162 : decode code 1162 = .ok (.aload_n 2, 1) := by decide +kernel
theorem d_Law_1163 : decode code 1163 = .ok (.aload_n 0, 1) := by decide +kernel
theorem d_Law_1164 : decode code 1164 = .ok (.iload_n 3, 1) := by decide +kernel
theorem d_Law_1165 : decode code 1165 = .ok (.iconst 1, 1) := by decide +kernel
theorem d_Law_1166 : decode code 1166 = .ok (.iadd, 1) := by decide +kernel
theorem d_Law_1167 : decode code 1167 = .ok (.iaload, 1) := by decide +kernel
theorem d_Law_1168 : decode code 1168 = .ok (.invokevirtual 134, 3) := by decide +kernel
theorem d_Law_1171 : decode code 1171 = .ok (.if_icmp .eq 18, 3) := by decide +kernel
theorem d_Law_1174 : decode code 1174 = .ok (.iconst 0, 1) := by decide +kernel
theorem d_Law_1175 : decode code 1175 = .ok (.ireturn, 1) := by decide +kernel
theorem d_Law_1176 : decode code 1176 = .ok (.aload_n 1, 1) := by decide +kernel
theorem d_Law_1177 : decode code 1177 = .ok (.invokevirtual 135, 3) := by decide +kernel
theorem d_Law_1180 : decode code 1180 = .ok (.aload_n 2, 1) := by decide +kernel
theorem d_Law_1181 : decode code 1181 = .ok (.invokevirtual 139, 3) := by decide +kernel
theorem d_Law_1184 : decode code 1184 = .ok (.if_icmp .eq 5, 3) := by decide +kernel
theorem d_Law_1187 : decode code 1187 = .ok (.iconst 0, 1) := by decide +kernel
theorem d_Law_1188 : decode code 1188 = .ok (.ireturn, 1) := by decide +kernel
theorem d_Law_1189 : decode code 1189 = .ok (.iinc 3 6, 3) := by decide +kernel
theorem d_Law_1192 : decode code 1192 = .ok (.goto (-1174), 3) := by decide +kernel
theorem d_Law_1195 : decode code 1195 = .ok (.iconst 1, 1) := by decide +kernel
theorem d_Law_1196 : decode code 1196 = .ok (.ireturn, 1) := by decide +kernel
end
