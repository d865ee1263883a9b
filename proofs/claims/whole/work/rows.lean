section
-- ===== PART A: goes FIRST, ahead of the names: the tables' words, and 'selects' of the private methods out of them =====
/-- a private method of a class that the tables say can be made, by its rows of tables_1 -/
def lw_okq (q : MethodName × Nat) : Prop := (q.1.cls ≠ "java/lang/invoke/MethodHandle" ∧ q.1.cls ≠ "java/lang/invoke/VarHandle") ∧ Cond.instantiable q.1.cls q.2 ∈ tables_1 ∧ Cond.privateMethod q.1 ∈ tables_1 ∧ Cond.instanceMethod q.1 ∈ tables_1
theorem lw_p0 : lw_okq (⟨"RiverRoad", "found", "(I)I"⟩, 7) := ⟨⟨by decide +kernel, by decide +kernel⟩, List.mem_of_getElem? (i := 19) (by decide +kernel), List.mem_of_getElem? (i := 83) (by decide +kernel), List.mem_of_getElem? (i := 84) (by decide +kernel)⟩
theorem lw_p1 : lw_okq (⟨"RiverRoad", "settled", "(I)I"⟩, 7) := ⟨⟨by decide +kernel, by decide +kernel⟩, List.mem_of_getElem? (i := 19) (by decide +kernel), List.mem_of_getElem? (i := 102) (by decide +kernel), List.mem_of_getElem? (i := 103) (by decide +kernel)⟩
theorem lw_p2 : lw_okq (⟨"RiverRoad", "shelve", "(ILRiverRoad$Thing;)I"⟩, 7) := ⟨⟨by decide +kernel, by decide +kernel⟩, List.mem_of_getElem? (i := 19) (by decide +kernel), List.mem_of_getElem? (i := 215) (by decide +kernel), List.mem_of_getElem? (i := 216) (by decide +kernel)⟩
theorem lw_p3 : lw_okq (⟨"RiverRoad", "notThat", "(I)I"⟩, 7) := ⟨⟨by decide +kernel, by decide +kernel⟩, List.mem_of_getElem? (i := 19) (by decide +kernel), List.mem_of_getElem? (i := 250) (by decide +kernel), List.mem_of_getElem? (i := 251) (by decide +kernel)⟩
theorem lw_p4 : lw_okq (⟨"RiverRoad", "endingsOf", "(II)I"⟩, 7) := ⟨⟨by decide +kernel, by decide +kernel⟩, List.mem_of_getElem? (i := 19) (by decide +kernel), List.mem_of_getElem? (i := 377) (by decide +kernel), List.mem_of_getElem? (i := 378) (by decide +kernel)⟩
theorem lw_p5 : lw_okq (⟨"RiverRoad", "plusOfRank", "(II)J"⟩, 7) := ⟨⟨by decide +kernel, by decide +kernel⟩, List.mem_of_getElem? (i := 19) (by decide +kernel), List.mem_of_getElem? (i := 381) (by decide +kernel), List.mem_of_getElem? (i := 382) (by decide +kernel)⟩
theorem lw_p6 : lw_okq (⟨"RiverRoad", "rankOf", "(LRiverRoad$Arches;)I"⟩, 7) := ⟨⟨by decide +kernel, by decide +kernel⟩, List.mem_of_getElem? (i := 19) (by decide +kernel), List.mem_of_getElem? (i := 537) (by decide +kernel), List.mem_of_getElem? (i := 538) (by decide +kernel)⟩
theorem lw_p7 : lw_okq (⟨"RiverRoad", "seekNthFold", "(II)Z"⟩, 7) := ⟨⟨by decide +kernel, by decide +kernel⟩, List.mem_of_getElem? (i := 19) (by decide +kernel), List.mem_of_getElem? (i := 593) (by decide +kernel), List.mem_of_getElem? (i := 594) (by decide +kernel)⟩
theorem lw_p8 : lw_okq (⟨"RiverRoad", "seekFold", "(III)I"⟩, 7) := ⟨⟨by decide +kernel, by decide +kernel⟩, List.mem_of_getElem? (i := 19) (by decide +kernel), List.mem_of_getElem? (i := 597) (by decide +kernel), List.mem_of_getElem? (i := 598) (by decide +kernel)⟩
theorem lw_p9 : lw_okq (⟨"RiverRoad", "fits", "(III)Z"⟩, 7) := ⟨⟨by decide +kernel, by decide +kernel⟩, List.mem_of_getElem? (i := 19) (by decide +kernel), List.mem_of_getElem? (i := 601) (by decide +kernel), List.mem_of_getElem? (i := 602) (by decide +kernel)⟩
theorem lw_p10 : lw_okq (⟨"RiverRoad", "closes", "(IIII)Z"⟩, 7) := ⟨⟨by decide +kernel, by decide +kernel⟩, List.mem_of_getElem? (i := 19) (by decide +kernel), List.mem_of_getElem? (i := 605) (by decide +kernel), List.mem_of_getElem? (i := 606) (by decide +kernel)⟩
theorem lw_p11 : lw_okq (⟨"RiverRoadModel", "finds", "(I)I"⟩, 34) := ⟨⟨by decide +kernel, by decide +kernel⟩, List.mem_of_getElem? (i := 626) (by decide +kernel), List.mem_of_getElem? (i := 748) (by decide +kernel), List.mem_of_getElem? (i := 749) (by decide +kernel)⟩
theorem lw_p12 : lw_okq (⟨"RiverRoadModel", "well", "(I)I"⟩, 34) := ⟨⟨by decide +kernel, by decide +kernel⟩, List.mem_of_getElem? (i := 626) (by decide +kernel), List.mem_of_getElem? (i := 753) (by decide +kernel), List.mem_of_getElem? (i := 754) (by decide +kernel)⟩
theorem lw_p13 : lw_okq (⟨"RiverRoadModel", "keep", "(II)I"⟩, 34) := ⟨⟨by decide +kernel, by decide +kernel⟩, List.mem_of_getElem? (i := 626) (by decide +kernel), List.mem_of_getElem? (i := 778) (by decide +kernel), List.mem_of_getElem? (i := 779) (by decide +kernel)⟩
theorem lw_p14 : lw_okq (⟨"RiverRoadModel", "rowKind", "()I"⟩, 34) := ⟨⟨by decide +kernel, by decide +kernel⟩, List.mem_of_getElem? (i := 626) (by decide +kernel), List.mem_of_getElem? (i := 782) (by decide +kernel), List.mem_of_getElem? (i := 783) (by decide +kernel)⟩
theorem lw_p15 : lw_okq (⟨"RiverRoadModel", "joins", "([I[III)Z"⟩, 34) := ⟨⟨by decide +kernel, by decide +kernel⟩, List.mem_of_getElem? (i := 626) (by decide +kernel), List.mem_of_getElem? (i := 786) (by decide +kernel), List.mem_of_getElem? (i := 787) (by decide +kernel)⟩
def lw_privs_1 : List (MethodName × Nat) := [(⟨"RiverRoad", "found", "(I)I"⟩, 7), (⟨"RiverRoad", "settled", "(I)I"⟩, 7), (⟨"RiverRoad", "shelve", "(ILRiverRoad$Thing;)I"⟩, 7), (⟨"RiverRoad", "notThat", "(I)I"⟩, 7), (⟨"RiverRoad", "endingsOf", "(II)I"⟩, 7), (⟨"RiverRoad", "plusOfRank", "(II)J"⟩, 7), (⟨"RiverRoad", "rankOf", "(LRiverRoad$Arches;)I"⟩, 7), (⟨"RiverRoad", "seekNthFold", "(II)Z"⟩, 7), (⟨"RiverRoad", "seekFold", "(III)I"⟩, 7), (⟨"RiverRoad", "fits", "(III)Z"⟩, 7), (⟨"RiverRoad", "closes", "(IIII)Z"⟩, 7), (⟨"RiverRoadModel", "finds", "(I)I"⟩, 34), (⟨"RiverRoadModel", "well", "(I)I"⟩, 34), (⟨"RiverRoadModel", "keep", "(II)I"⟩, 34), (⟨"RiverRoadModel", "rowKind", "()I"⟩, 34), (⟨"RiverRoadModel", "joins", "([I[III)Z"⟩, 34)]
theorem lw_r1 : ∀ q ∈ lw_privs_1, lw_okq q := List.forall_mem_cons.mpr ⟨lw_p0, List.forall_mem_cons.mpr ⟨lw_p1, List.forall_mem_cons.mpr ⟨lw_p2, List.forall_mem_cons.mpr ⟨lw_p3, List.forall_mem_cons.mpr ⟨lw_p4, List.forall_mem_cons.mpr ⟨lw_p5, List.forall_mem_cons.mpr ⟨lw_p6, List.forall_mem_cons.mpr ⟨lw_p7, List.forall_mem_cons.mpr ⟨lw_p8, List.forall_mem_cons.mpr ⟨lw_p9, List.forall_mem_cons.mpr ⟨lw_p10, List.forall_mem_cons.mpr ⟨lw_p11, List.forall_mem_cons.mpr ⟨lw_p12, List.forall_mem_cons.mpr ⟨lw_p13, List.forall_mem_cons.mpr ⟨lw_p14, List.forall_mem_cons.mpr ⟨lw_p15, fun _ h => absurd h List.not_mem_nil⟩⟩⟩⟩⟩⟩⟩⟩⟩⟩⟩⟩⟩⟩⟩⟩
theorem lw_p16 : lw_okq (⟨"RiverRoadModel", "landLoops", "(I)I"⟩, 34) := ⟨⟨by decide +kernel, by decide +kernel⟩, List.mem_of_getElem? (i := 626) (by decide +kernel), List.mem_of_getElem? (i := 790) (by decide +kernel), List.mem_of_getElem? (i := 791) (by decide +kernel)⟩
theorem lw_p17 : lw_okq (⟨"RiverRoadModel", "findLoops", "([II[III)I"⟩, 34) := ⟨⟨by decide +kernel, by decide +kernel⟩, List.mem_of_getElem? (i := 626) (by decide +kernel), List.mem_of_getElem? (i := 794) (by decide +kernel), List.mem_of_getElem? (i := 795) (by decide +kernel)⟩
theorem lw_p18 : lw_okq (⟨"RiverRoadModel", "isFolding", "([III)Z"⟩, 34) := ⟨⟨by decide +kernel, by decide +kernel⟩, List.mem_of_getElem? (i := 626) (by decide +kernel), List.mem_of_getElem? (i := 798) (by decide +kernel), List.mem_of_getElem? (i := 799) (by decide +kernel)⟩
theorem lw_p19 : lw_okq (⟨"RiverRoadModel", "copyThing", "(II)V"⟩, 34) := ⟨⟨by decide +kernel, by decide +kernel⟩, List.mem_of_getElem? (i := 626) (by decide +kernel), List.mem_of_getElem? (i := 803) (by decide +kernel), List.mem_of_getElem? (i := 804) (by decide +kernel)⟩
theorem lw_p20 : lw_okq (⟨"RiverRoadModel", "refusal", "(II)I"⟩, 34) := ⟨⟨by decide +kernel, by decide +kernel⟩, List.mem_of_getElem? (i := 626) (by decide +kernel), List.mem_of_getElem? (i := 811) (by decide +kernel), List.mem_of_getElem? (i := 812) (by decide +kernel)⟩
theorem lw_p21 : lw_okq (⟨"RiverRoadModel", "tell", "([IIII)Z"⟩, 34) := ⟨⟨by decide +kernel, by decide +kernel⟩, List.mem_of_getElem? (i := 626) (by decide +kernel), List.mem_of_getElem? (i := 827) (by decide +kernel), List.mem_of_getElem? (i := 828) (by decide +kernel)⟩
theorem lw_p22 : lw_okq (⟨"RiverRoadModel", "endsOf", "(II)I"⟩, 34) := ⟨⟨by decide +kernel, by decide +kernel⟩, List.mem_of_getElem? (i := 626) (by decide +kernel), List.mem_of_getElem? (i := 831) (by decide +kernel), List.mem_of_getElem? (i := 832) (by decide +kernel)⟩
theorem lw_p23 : lw_okq (⟨"RiverRoadModel", "turnTo", "([II[III)V"⟩, 34) := ⟨⟨by decide +kernel, by decide +kernel⟩, List.mem_of_getElem? (i := 626) (by decide +kernel), List.mem_of_getElem? (i := 839) (by decide +kernel), List.mem_of_getElem? (i := 840) (by decide +kernel)⟩
theorem lw_p24 : lw_okq (⟨"RiverRoadModel", "mirrorTo", "([II[III)V"⟩, 34) := ⟨⟨by decide +kernel, by decide +kernel⟩, List.mem_of_getElem? (i := 626) (by decide +kernel), List.mem_of_getElem? (i := 847) (by decide +kernel), List.mem_of_getElem? (i := 848) (by decide +kernel)⟩
theorem lw_p25 : lw_okq (⟨"RiverRoadModel", "sizeOf", "(I)I"⟩, 34) := ⟨⟨by decide +kernel, by decide +kernel⟩, List.mem_of_getElem? (i := 626) (by decide +kernel), List.mem_of_getElem? (i := 872) (by decide +kernel), List.mem_of_getElem? (i := 873) (by decide +kernel)⟩
theorem lw_p26 : lw_okq (⟨"RiverRoadModel", "begins", "(I)V"⟩, 34) := ⟨⟨by decide +kernel, by decide +kernel⟩, List.mem_of_getElem? (i := 626) (by decide +kernel), List.mem_of_getElem? (i := 876) (by decide +kernel), List.mem_of_getElem? (i := 877) (by decide +kernel)⟩
theorem lw_p27 : lw_okq (⟨"RiverRoadModel", "worth", "(I)I"⟩, 34) := ⟨⟨by decide +kernel, by decide +kernel⟩, List.mem_of_getElem? (i := 626) (by decide +kernel), List.mem_of_getElem? (i := 880) (by decide +kernel), List.mem_of_getElem? (i := 881) (by decide +kernel)⟩
theorem lw_p28 : lw_okq (⟨"RiverRoadModel", "mark", "(I)I"⟩, 34) := ⟨⟨by decide +kernel, by decide +kernel⟩, List.mem_of_getElem? (i := 626) (by decide +kernel), List.mem_of_getElem? (i := 884) (by decide +kernel), List.mem_of_getElem? (i := 885) (by decide +kernel)⟩
theorem lw_p29 : lw_okq (⟨"RiverRoadModel", "rankOf", "([III)I"⟩, 34) := ⟨⟨by decide +kernel, by decide +kernel⟩, List.mem_of_getElem? (i := 626) (by decide +kernel), List.mem_of_getElem? (i := 905) (by decide +kernel), List.mem_of_getElem? (i := 906) (by decide +kernel)⟩
theorem lw_p30 : lw_okq (⟨"RiverRoadModel", "countLands", "(I)V"⟩, 34) := ⟨⟨by decide +kernel, by decide +kernel⟩, List.mem_of_getElem? (i := 626) (by decide +kernel), List.mem_of_getElem? (i := 922) (by decide +kernel), List.mem_of_getElem? (i := 923) (by decide +kernel)⟩
theorem lw_p31 : lw_okq (⟨"RiverRoadModel", "tellAll", "(I)I"⟩, 34) := ⟨⟨by decide +kernel, by decide +kernel⟩, List.mem_of_getElem? (i := 626) (by decide +kernel), List.mem_of_getElem? (i := 926) (by decide +kernel), List.mem_of_getElem? (i := 927) (by decide +kernel)⟩
def lw_privs_2 : List (MethodName × Nat) := [(⟨"RiverRoadModel", "landLoops", "(I)I"⟩, 34), (⟨"RiverRoadModel", "findLoops", "([II[III)I"⟩, 34), (⟨"RiverRoadModel", "isFolding", "([III)Z"⟩, 34), (⟨"RiverRoadModel", "copyThing", "(II)V"⟩, 34), (⟨"RiverRoadModel", "refusal", "(II)I"⟩, 34), (⟨"RiverRoadModel", "tell", "([IIII)Z"⟩, 34), (⟨"RiverRoadModel", "endsOf", "(II)I"⟩, 34), (⟨"RiverRoadModel", "turnTo", "([II[III)V"⟩, 34), (⟨"RiverRoadModel", "mirrorTo", "([II[III)V"⟩, 34), (⟨"RiverRoadModel", "sizeOf", "(I)I"⟩, 34), (⟨"RiverRoadModel", "begins", "(I)V"⟩, 34), (⟨"RiverRoadModel", "worth", "(I)I"⟩, 34), (⟨"RiverRoadModel", "mark", "(I)I"⟩, 34), (⟨"RiverRoadModel", "rankOf", "([III)I"⟩, 34), (⟨"RiverRoadModel", "countLands", "(I)V"⟩, 34), (⟨"RiverRoadModel", "tellAll", "(I)I"⟩, 34)]
theorem lw_r2 : ∀ q ∈ lw_privs_2, lw_okq q := List.forall_mem_cons.mpr ⟨lw_p16, List.forall_mem_cons.mpr ⟨lw_p17, List.forall_mem_cons.mpr ⟨lw_p18, List.forall_mem_cons.mpr ⟨lw_p19, List.forall_mem_cons.mpr ⟨lw_p20, List.forall_mem_cons.mpr ⟨lw_p21, List.forall_mem_cons.mpr ⟨lw_p22, List.forall_mem_cons.mpr ⟨lw_p23, List.forall_mem_cons.mpr ⟨lw_p24, List.forall_mem_cons.mpr ⟨lw_p25, List.forall_mem_cons.mpr ⟨lw_p26, List.forall_mem_cons.mpr ⟨lw_p27, List.forall_mem_cons.mpr ⟨lw_p28, List.forall_mem_cons.mpr ⟨lw_p29, List.forall_mem_cons.mpr ⟨lw_p30, List.forall_mem_cons.mpr ⟨lw_p31, fun _ h => absurd h List.not_mem_nil⟩⟩⟩⟩⟩⟩⟩⟩⟩⟩⟩⟩⟩⟩⟩⟩
theorem lw_p32 : lw_okq (⟨"RiverRoadModel", "goThrough", "(II)I"⟩, 34) := ⟨⟨by decide +kernel, by decide +kernel⟩, List.mem_of_getElem? (i := 626) (by decide +kernel), List.mem_of_getElem? (i := 953) (by decide +kernel), List.mem_of_getElem? (i := 954) (by decide +kernel)⟩
theorem lw_p33 : lw_okq (⟨"RiverRoadModel", "nextOrder", "(I)Z"⟩, 34) := ⟨⟨by decide +kernel, by decide +kernel⟩, List.mem_of_getElem? (i := 626) (by decide +kernel), List.mem_of_getElem? (i := 957) (by decide +kernel), List.mem_of_getElem? (i := 958) (by decide +kernel)⟩
def lw_privs_3 : List (MethodName × Nat) := [(⟨"RiverRoadModel", "goThrough", "(II)I"⟩, 34), (⟨"RiverRoadModel", "nextOrder", "(I)Z"⟩, 34)]
theorem lw_r3 : ∀ q ∈ lw_privs_3, lw_okq q := List.forall_mem_cons.mpr ⟨lw_p32, List.forall_mem_cons.mpr ⟨lw_p33, fun _ h => absurd h List.not_mem_nil⟩⟩
def lw_privs : List (MethodName × Nat) := lw_privs_1 ++ (lw_privs_2 ++ (lw_privs_3))
def lw_tbl : List Cond := k2_sels lw_privs ++ tables_1
theorem lw_privs_ok : ∀ q ∈ lw_privs, lw_okq q := by
  show ∀ q ∈ lw_privs_1 ++ (lw_privs_2 ++ (lw_privs_3)), lw_okq q
  exact List.forall_mem_append.mpr ⟨lw_r1, List.forall_mem_append.mpr ⟨lw_r2, lw_r3⟩⟩
/-! fields of the classes, in an order of ours: n is the first of every THING, plus the second of every ROW, partner the third of all ARCHES -/
def F_RR : u_T := fun k => match k with
  | 0 => ("RiverRoad", "sheets", "[LRiverRoad$Sheet;", true)
  | 1 => ("RiverRoad", "shelf", "[LRiverRoad$Thing;", true)
  | 2 => ("RiverRoad", "bodies", "LRiverRoad$Trace;", true)
  | 3 => ("RiverRoad", "endings", "[I", true)
  | 4 => ("RiverRoad", "foldStamps", "[I", true)
  | 5 => ("RiverRoad", "foldPlaces", "[I", true)
  | _ => ("RiverRoad", "latestFinding", "I", false)
def t_RR : Nat → FieldType := fun k => match k with
  | 0 => .array (.object "RiverRoad$Sheet")
  | 1 => .array (.object "RiverRoad$Thing")
  | 2 => .object "RiverRoad$Trace"
  | 3 => .array .int
  | 4 => .array .int
  | 5 => .array .int
  | _ => .int
def F_Tr : u_T := fun k => match k with
  | 0 => ("RiverRoad$Trace", "numbers", "[I", true)
  | _ => ("RiverRoad$Trace", "length", "I", false)
def t_Tr : Nat → FieldType := fun k => match k with
  | 0 => .array .int
  | _ => .int
def F_Sh : u_T := fun k => match k with
  | 0 => ("RiverRoad$Sheet", "lane", "I", true)
  | _ => ("RiverRoad$Sheet", "items", "[I", true)
def t_Sh : Nat → FieldType := fun k => match k with
  | 0 => .int
  | _ => .array .int
def F_Row : u_T := fun k => match k with
  | 0 => ("RiverRoad$Thing", "n", "I", true)
  | _ => ("RiverRoad$Row", "plus", "J", true)
def t_Row : Nat → FieldType := fun k => match k with
  | 0 => .int
  | _ => .long
def F_Ar : u_T := fun k => match k with
  | 0 => ("RiverRoad$Thing", "n", "I", true)
  | 1 => ("RiverRoad$Row", "plus", "J", true)
  | _ => ("RiverRoad$Arches", "partner", "[I", true)
def t_Ar : Nat → FieldType := fun k => match k with
  | 0 => .int
  | 1 => .long
  | _ => .array .int
def F_La : u_T := fun k => match k with
  | 0 => ("RiverRoad$Thing", "n", "I", true)
  | 1 => ("RiverRoad$Land", "over", "LRiverRoad$Arches;", true)
  | 2 => ("RiverRoad$Land", "under", "LRiverRoad$Arches;", true)
  | 3 => ("RiverRoad$Land", "loopOf", "[I", true)
  | _ => ("RiverRoad$Land", "loopCount", "I", true)
def t_La : Nat → FieldType := fun k => match k with
  | 0 => .int
  | 1 => .object "RiverRoad$Arches"
  | 2 => .object "RiverRoad$Arches"
  | 3 => .array .int
  | _ => .int
def F_St : u_T := fun k => match k with
  | 0 => ("RiverRoad$Thing", "n", "I", true)
  | 1 => ("RiverRoad$Strip", "stamps", "[I", true)
  | 2 => ("RiverRoad$Strip", "placeOf", "[I", true)
  | 3 => ("RiverRoad$Strip", "clashFirst", "I", true)
  | _ => ("RiverRoad$Strip", "clashSecond", "I", true)
def t_St : Nat → FieldType := fun k => match k with
  | 0 => .int
  | 1 => .array .int
  | 2 => .array .int
  | 3 => .int
  | _ => .int
def F_Mo : u_T := fun k => match k with
  | 0 => ("RiverRoadModel", "lane", "[I", true)
  | 1 => ("RiverRoadModel", "size", "[I", true)
  | 2 => ("RiverRoadModel", "item", "[I", true)
  | 3 => ("RiverRoadModel", "moving", "[I", true)
  | 4 => ("RiverRoadModel", "kinds", "[I", true)
  | 5 => ("RiverRoadModel", "many", "[I", true)
  | 6 => ("RiverRoadModel", "one", "[I", true)
  | 7 => ("RiverRoadModel", "two", "[I", true)
  | 8 => ("RiverRoadModel", "over", "[I", true)
  | 9 => ("RiverRoadModel", "under", "[I", true)
  | 10 => ("RiverRoadModel", "status", "I", false)
  | 11 => ("RiverRoadModel", "trace", "[I", true)
  | 12 => ("RiverRoadModel", "traced", "I", false)
  | 13 => ("RiverRoadModel", "open", "[I", true)
  | 14 => ("RiverRoadModel", "loopOf", "[I", true)
  | 15 => ("RiverRoadModel", "stands", "[I", true)
  | 16 => ("RiverRoadModel", "clashOne", "I", false)
  | 17 => ("RiverRoadModel", "clashTwo", "I", false)
  | 18 => ("RiverRoadModel", "met", "[Z", true)
  | 19 => ("RiverRoadModel", "ends", "[I", true)
  | 20 => ("RiverRoadModel", "isCounted", "Z", false)
  | 21 => ("RiverRoadModel", "allSigns", "[I", true)
  | 22 => ("RiverRoadModel", "allJoined", "[I", true)
  | 23 => ("RiverRoadModel", "allOf", "I", false)
  | 24 => ("RiverRoadModel", "landCount", "[I", true)
  | 25 => ("RiverRoadModel", "isLandCounted", "[Z", true)
  | 26 => ("RiverRoadModel", "unlikes", "[I", true)
  | 27 => ("RiverRoadModel", "foldCount", "[I", true)
  | 28 => ("RiverRoadModel", "open2", "[I", true)
  | 29 => ("RiverRoadModel", "isDone", "[Z", true)
  | 30 => ("RiverRoadModel", "turned", "[I", true)
  | 31 => ("RiverRoadModel", "mirrored", "[I", true)
  | 32 => ("RiverRoadModel", "toDo", "[I", true)
  | _ => ("RiverRoadModel", "order", "[I", true)
def t_Mo : Nat → FieldType := fun k => match k with
  | 0 => .array .int
  | 1 => .array .int
  | 2 => .array .int
  | 3 => .array .int
  | 4 => .array .int
  | 5 => .array .int
  | 6 => .array .int
  | 7 => .array .int
  | 8 => .array .int
  | 9 => .array .int
  | 10 => .int
  | 11 => .array .int
  | 12 => .int
  | 13 => .array .int
  | 14 => .array .int
  | 15 => .array .int
  | 16 => .int
  | 17 => .int
  | 18 => .array .boolean
  | 19 => .array .int
  | 20 => .boolean
  | 21 => .array .int
  | 22 => .array .int
  | 23 => .int
  | 24 => .array .int
  | 25 => .array .boolean
  | 26 => .array .int
  | 27 => .array .int
  | 28 => .array .int
  | 29 => .array .boolean
  | 30 => .array .int
  | 31 => .array .int
  | 32 => .array .int
  | _ => .array .int
abbrev classes : List vw_C := [("RiverRoad", F_RR, 7), ("RiverRoad$Trace", F_Tr, 2), ("RiverRoad$Sheet", F_Sh, 2), ("RiverRoad$Row", F_Row, 2), ("RiverRoad$Arches", F_Ar, 3), ("RiverRoad$Nest", F_Ar, 3), ("RiverRoad$Peaks", F_Ar, 3), ("RiverRoad$Land", F_La, 5), ("RiverRoad$Loop", F_La, 5), ("RiverRoad$Strip", F_St, 5), ("RiverRoad$Fold", F_St, 5), ("RiverRoadModel", F_Mo, 34)]
theorem n_RR : ∀ a, a < 7 → ∀ b, b < 7 → a ≠ b → (F_RR a).2.1 ≠ (F_RR b).2.1 := by decide +kernel
theorem t_RR_ok : ∀ k, k < 7 → parseFieldDescriptor (F_RR k).2.2.1 = some (t_RR k) := by decide +kernel
theorem n_Tr : ∀ a, a < 2 → ∀ b, b < 2 → a ≠ b → (F_Tr a).2.1 ≠ (F_Tr b).2.1 := by decide +kernel
theorem t_Tr_ok : ∀ k, k < 2 → parseFieldDescriptor (F_Tr k).2.2.1 = some (t_Tr k) := by decide +kernel
theorem n_Sh : ∀ a, a < 2 → ∀ b, b < 2 → a ≠ b → (F_Sh a).2.1 ≠ (F_Sh b).2.1 := by decide +kernel
theorem t_Sh_ok : ∀ k, k < 2 → parseFieldDescriptor (F_Sh k).2.2.1 = some (t_Sh k) := by decide +kernel
theorem n_Row : ∀ a, a < 2 → ∀ b, b < 2 → a ≠ b → (F_Row a).2.1 ≠ (F_Row b).2.1 := by decide +kernel
theorem t_Row_ok : ∀ k, k < 2 → parseFieldDescriptor (F_Row k).2.2.1 = some (t_Row k) := by decide +kernel
theorem n_Ar : ∀ a, a < 3 → ∀ b, b < 3 → a ≠ b → (F_Ar a).2.1 ≠ (F_Ar b).2.1 := by decide +kernel
theorem t_Ar_ok : ∀ k, k < 3 → parseFieldDescriptor (F_Ar k).2.2.1 = some (t_Ar k) := by decide +kernel
theorem n_La : ∀ a, a < 5 → ∀ b, b < 5 → a ≠ b → (F_La a).2.1 ≠ (F_La b).2.1 := by decide +kernel
theorem t_La_ok : ∀ k, k < 5 → parseFieldDescriptor (F_La k).2.2.1 = some (t_La k) := by decide +kernel
theorem n_St : ∀ a, a < 5 → ∀ b, b < 5 → a ≠ b → (F_St a).2.1 ≠ (F_St b).2.1 := by decide +kernel
theorem t_St_ok : ∀ k, k < 5 → parseFieldDescriptor (F_St k).2.2.1 = some (t_St k) := by decide +kernel
theorem n_Mo : ∀ a, a < 34 → ∀ b, b < 34 → a ≠ b → (F_Mo a).2.1 ≠ (F_Mo b).2.1 := by decide +kernel
theorem t_Mo_ok : ∀ k, k < 34 → parseFieldDescriptor (F_Mo k).2.2.1 = some (t_Mo k) := by decide +kernel
theorem i_RR : ∀ w ∈ u_ws "RiverRoad" F_RR 7, w ∈ lw_tbl := by decide +kernel
theorem i_Tr : ∀ w ∈ u_ws "RiverRoad$Trace" F_Tr 2, w ∈ lw_tbl := by decide +kernel
theorem i_Sh : ∀ w ∈ u_ws "RiverRoad$Sheet" F_Sh 2, w ∈ lw_tbl := by decide +kernel
theorem i_Row : ∀ w ∈ u_ws "RiverRoad$Row" F_Row 2, w ∈ lw_tbl := by decide +kernel
theorem i_Ar : ∀ w ∈ u_ws "RiverRoad$Arches" F_Ar 3, w ∈ lw_tbl := by decide +kernel
theorem i_Ne : ∀ w ∈ u_ws "RiverRoad$Nest" F_Ar 3, w ∈ lw_tbl := by decide +kernel
theorem i_Pe : ∀ w ∈ u_ws "RiverRoad$Peaks" F_Ar 3, w ∈ lw_tbl := by decide +kernel
theorem i_La : ∀ w ∈ u_ws "RiverRoad$Land" F_La 5, w ∈ lw_tbl := by decide +kernel
theorem i_Lo : ∀ w ∈ u_ws "RiverRoad$Loop" F_La 5, w ∈ lw_tbl := by decide +kernel
theorem i_St : ∀ w ∈ u_ws "RiverRoad$Strip" F_St 5, w ∈ lw_tbl := by decide +kernel
theorem i_Fo : ∀ w ∈ u_ws "RiverRoad$Fold" F_St 5, w ∈ lw_tbl := by decide +kernel
theorem i_Mo : ∀ w ∈ u_ws "RiverRoadModel" F_Mo 34, w ∈ lw_tbl := by decide +kernel
end
section
/-! VALUES, CELLS, WORLDS: numbers are Int, addresses count from the law's first new cell -/
abbrev MV : Type := Int ⊕ (Int ⊕ (Option Nat ⊕ Nat))
abbrev vI (z : Int) : MV := .inl z
abbrev vL (z : Int) : MV := .inr (.inl z)
abbrev vQ (o : Option Nat) : MV := .inr (.inr (.inl o))
abbrev vR (a : Nat) : MV := .inr (.inr (.inl (some a)))
abbrev vN : MV := .inr (.inr (.inl none))
abbrev vS (k : Nat) : MV := .inr (.inr (.inr k))
/-- tables' numbers, arrays' classes, the first new address, the static arrays' addresses -/
abbrev Ev : Type := va_G × (Nat → ClassId) × Nat × (Nat → Nat)
def eb (E : Ev) : Nat := E.2.2.1
def cq (E : Ev) (o : Option Nat) : Option Nat := o.map (fun a => eb E + a)
def cv (E : Ev) (v : MV) : Value := match v with
  | .inl z => .int (Int32.ofInt z)
  | .inr (.inl z) => .long (Int64.ofInt z)
  | .inr (.inr (.inl none)) => .null
  | .inr (.inr (.inl (some a))) => .ref (eb E + a)
  | .inr (.inr (.inr k)) => .ref (E.2.2.2 k)
def i32 (z : Int) : Prop := -2147483648 ≤ z ∧ z < 2147483648
def i64 (z : Int) : Prop := -9223372036854775808 ≤ z ∧ z < 9223372036854775808
def okV (v : MV) : Prop := match v with
  | .inl z => i32 z
  | .inr (.inl z) => i64 z
  | .inr (.inr _) => True
abbrev MC : Type := (Bool × Nat × Nat × (Nat → Int)) ⊕ ((Nat × Nat × (Nat → Option Nat)) ⊕ (Nat × List MV))
abbrev kA (t n : Nat) (f : Nat → Int) : MC := .inl (false, t, n, f)
abbrev kZ (n : Nat) (f : Nat → Int) : MC := .inl (true, 0, n, f)
abbrev kR (y n : Nat) (g : Nat → Option Nat) : MC := .inr (.inl (y, n, g))
abbrev kO (ci : Nat) (fs : List MV) : MC := .inr (.inr (ci, fs))
abbrev MH : Type := Nat → Option MC
def ec (E : Ev) (c : MC) : va_E := match c with
  | .inl (b, _, n, f) => .inl (E.2.1 (if b then 1 else 0), n, .inl (fun j => Int32.ofInt (f j)))
  | .inr (.inl (y, n, g)) => .inl (E.2.1 (2 + y), n, .inr (.inr (.inr (.inr (fun j => cq E (g j))))))
  | .inr (.inr (ci, fs)) => .inr (ci, fs.map (cv E))
def okC (c : MC) : Prop := match c with
  | .inl (b, _, n, f) => n < 2147483648 ∧ ∀ j, j < n → i32 (f j) ∧ (b = true → f j = 0 ∨ f j = 1)
  | .inr (.inl (_, n, _)) => n < 2147483648
  | .inr (.inr (_, fs)) => ∀ v ∈ fs, okV v
def ty4 (E : Ev) : List (ClassId × FieldType) := [(E.2.1 0, .int), (E.2.1 1, .boolean), (E.2.1 2, .object "RiverRoad$Sheet"), (E.2.1 3, .object "RiverRoad$Thing")]
/-- the static arrays -/
def stN (k : Nat) : String := match k with
  | 1 => "LANDS_BY_LOOPS"
  | 2 => "UNLIKE_LOOPS"
  | _ => "FOLDS_BY_FIRST"
def stL (k : Nat) : Nat := match k with
  | 1 => 49
  | 2 => 5
  | _ => 8
def stT (k : Nat) : List Int := match k with
  | 1 => [1, 0, 0, 0, 0, 0, 0, 2, 2, 0, 0, 0, 0, 0, 8, 12, 5, 0, 0, 0, 0, 42, 84, 56, 14, 0, 0, 0, 262, 640, 580, 240, 42, 0, 0, 1828, 5236, 5894, 3344, 990, 132, 0, 13820, 45164, 60312, 42840, 17472, 4004, 429]
  | 2 => [1, 1, 2, 4, 14]
  | _ => [1, 1, 2, 4, 10, 24, 66, 174]
def stV (k j : Nat) : Int := (stT k).getD j 0
/-- classes that may be cast, methods that are declared alone, pairs that may not be cast -/
def caL : List (String × String) := [("[I", "java/lang/Cloneable"), ("RiverRoad$Nest", "RiverRoad$Arches"), ("RiverRoad$Peaks", "RiverRoad$Arches"), ("RiverRoad$Loop", "RiverRoad$Land"), ("RiverRoad$Arches", "RiverRoad$Row"), ("RiverRoad$Nest", "RiverRoad$Row"), ("RiverRoad$Peaks", "RiverRoad$Row"), ("RiverRoad$Fold", "RiverRoad$Strip"), ("RiverRoad$Peaks", "RiverRoad$Thing"), ("RiverRoad$Nest", "RiverRoad$Thing"), ("RiverRoad$Arches", "RiverRoad$Thing"), ("RiverRoad$Row", "RiverRoad$Thing"), ("RiverRoad$Loop", "RiverRoad$Thing"), ("RiverRoad$Land", "RiverRoad$Thing"), ("RiverRoad$Strip", "RiverRoad$Thing"), ("RiverRoad$Fold", "RiverRoad$Thing")]
def deL : List MethodName := [⟨"RiverRoad$Thing", "told", "()I"⟩, ⟨"RiverRoad$Thing", "askWorth", "(LRiverRoad$Trace;)I"⟩, ⟨"RiverRoad$Land", "askSize", "(LRiverRoad$Trace;)I"⟩, ⟨"RiverRoad$Thing", "askSize", "(LRiverRoad$Trace;)I"⟩, ⟨"RiverRoad$Thing", "askMark", "(LRiverRoad$Trace;)I"⟩, ⟨"RiverRoad$Arches", "askWorth", "(LRiverRoad$Trace;)I"⟩]
def ncL : List (String × String) := [("RiverRoad", "RiverRoad$Arches"), ("RiverRoad$Trace", "RiverRoad$Arches"), ("RiverRoadModel", "RiverRoad$Arches"), ("RiverRoad$Sheet", "RiverRoad$Arches"), ("RiverRoad$Row", "RiverRoad$Arches"), ("RiverRoad$Loop", "RiverRoad$Arches"), ("RiverRoad$Land", "RiverRoad$Arches"), ("RiverRoad$Strip", "RiverRoad$Arches"), ("RiverRoad$Fold", "RiverRoad$Arches"), ("RiverRoad", "RiverRoad$Land"), ("RiverRoad$Trace", "RiverRoad$Land"), ("RiverRoadModel", "RiverRoad$Land"), ("RiverRoad$Sheet", "RiverRoad$Land"), ("RiverRoad$Peaks", "RiverRoad$Land"), ("RiverRoad$Nest", "RiverRoad$Land"), ("RiverRoad$Arches", "RiverRoad$Land"), ("RiverRoad$Row", "RiverRoad$Land"), ("RiverRoad$Strip", "RiverRoad$Land"), ("RiverRoad$Fold", "RiverRoad$Land"), ("RiverRoad", "RiverRoad$Row"), ("RiverRoad$Trace", "RiverRoad$Row"), ("RiverRoadModel", "RiverRoad$Row"), ("RiverRoad$Sheet", "RiverRoad$Row"), ("RiverRoad$Loop", "RiverRoad$Row"), ("RiverRoad$Land", "RiverRoad$Row"), ("RiverRoad$Strip", "RiverRoad$Row"), ("RiverRoad$Fold", "RiverRoad$Row"), ("RiverRoad", "RiverRoad$Nest"), ("RiverRoad$Trace", "RiverRoad$Nest"), ("RiverRoadModel", "RiverRoad$Nest"), ("RiverRoad$Sheet", "RiverRoad$Nest"), ("RiverRoad$Peaks", "RiverRoad$Nest"), ("RiverRoad$Arches", "RiverRoad$Nest"), ("RiverRoad$Row", "RiverRoad$Nest"), ("RiverRoad$Loop", "RiverRoad$Nest"), ("RiverRoad$Land", "RiverRoad$Nest"), ("RiverRoad$Strip", "RiverRoad$Nest"), ("RiverRoad$Fold", "RiverRoad$Nest"), ("RiverRoad", "RiverRoad$Peaks"), ("RiverRoad$Trace", "RiverRoad$Peaks"), ("RiverRoadModel", "RiverRoad$Peaks"), ("RiverRoad$Sheet", "RiverRoad$Peaks"), ("RiverRoad$Nest", "RiverRoad$Peaks"), ("RiverRoad$Arches", "RiverRoad$Peaks"), ("RiverRoad$Row", "RiverRoad$Peaks"), ("RiverRoad$Loop", "RiverRoad$Peaks"), ("RiverRoad$Land", "RiverRoad$Peaks"), ("RiverRoad$Strip", "RiverRoad$Peaks"), ("RiverRoad$Fold", "RiverRoad$Peaks"), ("RiverRoad", "RiverRoad$Loop"), ("RiverRoad$Trace", "RiverRoad$Loop"), ("RiverRoadModel", "RiverRoad$Loop"), ("RiverRoad$Sheet", "RiverRoad$Loop"), ("RiverRoad$Peaks", "RiverRoad$Loop"), ("RiverRoad$Nest", "RiverRoad$Loop"), ("RiverRoad$Arches", "RiverRoad$Loop"), ("RiverRoad$Row", "RiverRoad$Loop"), ("RiverRoad$Land", "RiverRoad$Loop"), ("RiverRoad$Strip", "RiverRoad$Loop"), ("RiverRoad$Fold", "RiverRoad$Loop"), ("RiverRoad", "RiverRoad$Strip"), ("RiverRoad$Trace", "RiverRoad$Strip"), ("RiverRoadModel", "RiverRoad$Strip"), ("RiverRoad$Sheet", "RiverRoad$Strip"), ("RiverRoad$Peaks", "RiverRoad$Strip"), ("RiverRoad$Nest", "RiverRoad$Strip"), ("RiverRoad$Arches", "RiverRoad$Strip"), ("RiverRoad$Row", "RiverRoad$Strip"), ("RiverRoad$Loop", "RiverRoad$Strip"), ("RiverRoad$Land", "RiverRoad$Strip"), ("RiverRoad", "RiverRoad$Fold"), ("RiverRoad$Trace", "RiverRoad$Fold"), ("RiverRoadModel", "RiverRoad$Fold"), ("RiverRoad$Sheet", "RiverRoad$Fold"), ("RiverRoad$Peaks", "RiverRoad$Fold"), ("RiverRoad$Nest", "RiverRoad$Fold"), ("RiverRoad$Arches", "RiverRoad$Fold"), ("RiverRoad$Row", "RiverRoad$Fold"), ("RiverRoad$Loop", "RiverRoad$Fold"), ("RiverRoad$Land", "RiverRoad$Fold"), ("RiverRoad$Strip", "RiverRoad$Fold"), ("[LRiverRoad$Sheet;", "RiverRoad$Arches"), ("[LRiverRoad$Thing;", "RiverRoad$Arches"), ("[I", "RiverRoad$Arches"), ("[Z", "RiverRoad$Arches"), ("[LRiverRoad$Sheet;", "RiverRoad$Land"), ("[LRiverRoad$Thing;", "RiverRoad$Land"), ("[I", "RiverRoad$Land"), ("[Z", "RiverRoad$Land"), ("[LRiverRoad$Sheet;", "RiverRoad$Row"), ("[LRiverRoad$Thing;", "RiverRoad$Row"), ("[I", "RiverRoad$Row"), ("[Z", "RiverRoad$Row"), ("[LRiverRoad$Sheet;", "RiverRoad$Nest"), ("[LRiverRoad$Thing;", "RiverRoad$Nest"), ("[I", "RiverRoad$Nest"), ("[Z", "RiverRoad$Nest"), ("[LRiverRoad$Sheet;", "RiverRoad$Peaks"), ("[LRiverRoad$Thing;", "RiverRoad$Peaks"), ("[I", "RiverRoad$Peaks"), ("[Z", "RiverRoad$Peaks"), ("[LRiverRoad$Sheet;", "RiverRoad$Loop"), ("[LRiverRoad$Thing;", "RiverRoad$Loop"), ("[I", "RiverRoad$Loop"), ("[Z", "RiverRoad$Loop"), ("[LRiverRoad$Sheet;", "RiverRoad$Strip"), ("[LRiverRoad$Thing;", "RiverRoad$Strip"), ("[I", "RiverRoad$Strip"), ("[Z", "RiverRoad$Strip"), ("[LRiverRoad$Sheet;", "RiverRoad$Fold"), ("[LRiverRoad$Thing;", "RiverRoad$Fold"), ("[I", "RiverRoad$Fold"), ("[Z", "RiverRoad$Fold"), ("RiverRoad", "RiverRoad$Sheet"), ("RiverRoad$Trace", "RiverRoad$Sheet"), ("RiverRoadModel", "RiverRoad$Sheet"), ("RiverRoad$Peaks", "RiverRoad$Sheet"), ("RiverRoad$Nest", "RiverRoad$Sheet"), ("RiverRoad$Arches", "RiverRoad$Sheet"), ("RiverRoad$Row", "RiverRoad$Sheet"), ("RiverRoad$Loop", "RiverRoad$Sheet"), ("RiverRoad$Land", "RiverRoad$Sheet"), ("RiverRoad$Strip", "RiverRoad$Sheet"), ("RiverRoad$Fold", "RiverRoad$Sheet"), ("RiverRoad$Thing", "RiverRoad$Sheet"), ("RiverRoad", "RiverRoad$Thing"), ("RiverRoad$Trace", "RiverRoad$Thing"), ("RiverRoadModel", "RiverRoad$Thing"), ("RiverRoad$Sheet", "RiverRoad$Thing")]

/-- what a state says of the tables, of the casts, of the static arrays -/
def SF (E : Ev) (U : State) : Prop :=
  va_K E.1 classes (ty4 E) U ∧ (∀ w ∈ lw_tbl, goodWord w = true → w.before #[] U = true) ∧
  (∀ q ∈ caL, va_Nw (.castable q.1 q.2) U) ∧ (∀ y ∈ deL, va_Nw (.declares y) U) ∧ va_Nw (.methodLinkNest "RiverRoad" 23 ⟨"RiverRoad$Trace", "<init>", "()V"⟩ "RiverRoad") U ∧
  (∀ q ∈ ncL, va_Nc q.1 q.2 U) ∧ va_AO "RiverRoad$Sheet" U ∧ va_AO "RiverRoad$Thing" U ∧ eb E ≤ U.heap.size ∧
  ∀ k, 1 ≤ k → k ≤ 3 → va_Z "RiverRoad" (stN k) "[I" (.ref (E.2.2.2 k)) (fun q => eb E ≤ q) U U.heap ∧ va_T .int (E.2.2.2 k) (stL k) (fun j => .int (Int32.ofInt (stV k j))) (fun q => eb E ≤ q) U U.heap
theorem SF.warm {E : Ev} {s U : State} (h : SF E s) (hW : s.WarmedH U.vm) (hb : eb E ≤ U.heap.size) (hq : ∀ q : Nat, q < s.heap.size → ¬ eb E ≤ q → U.heap[q]? = s.heap[q]?) : SF E U := by
  obtain ⟨h1, h2, h3, h4, h5, h6, h7, h8, h9, h10⟩ := h
  refine ⟨va_K.moved hW.alike h1, fun w hw hg => word_at hW (good_of_word hg) (h2 w hw hg), fun q hq => (h3 q hq).warmC hW, fun y hy => (h4 y hy).warmD hW, h5.warmM hW, fun q hq => (h6 q hq).moved hW.alike, h7.moved hW.alike, h8.moved hW.alike, hb, fun k hk1 hk2 => ?_⟩
  obtain ⟨a, b⟩ := h10 k hk1 hk2
  exact ⟨(a.moved hW.alike).kept hq, (b.moved hW.alike).kept hq⟩
/-- the heap holds the cells of h, and is as large as sz says -/
def RW (E : Ev) (h : MH) (sz : Nat) (H : Heap) : Prop := H.size = eb E + sz ∧ ∀ a c, h a = some c → okC c ∧ va_at E.1 classes (eb E + a, ec E c) H
/-- the cells that a method may write: those of h, and new ones -/
def FR (E : Ev) (h : MH) (sz : Nat) : Nat → Prop := fun q => (∃ a c, h a = some c ∧ q = eb E + a) ∨ eb E + sz ≤ q
/-- locals, by their places -/
def lk : List (Option MV) → Nat → Option MV
  | [], _ => none
  | o :: _, 0 => o
  | _ :: l, n + 1 => lk l n
def LL (E : Ev) (nL : Nat) (ls : List (Option MV)) (lv : Array Slot) : Prop := lv.size = nL ∧ lv_wf lv ∧ ∀ i v, lk ls i = some v → lv[i]? = some (.val (cv E v)) ∧ okV v
/-- a method: its name, code, locals, answer -/
abbrev MD : Type := MethodName × ByteArray × Nat × Option FieldType
abbrev QT : Type := Option MV → MH → Nat → Prop
def okRet (rt : Option FieldType) (r : Option MV) : Prop := match r with
  | none => rt = none
  | some (.inl z) => rt = some .int ∨ (rt = some .boolean ∧ (z = 0 ∨ z = 1))
  | some (.inr (.inl _)) => rt = some .long
  | some (.inr (.inr _)) => (∃ t, rt = some (.array t)) ∨ ∃ c, rt = some (.object c)
def retI (r : Option MV) : Instr := match r with
  | none => .return_
  | some (.inl _) => .ireturn
  | some (.inr (.inl _)) => .lreturn
  | some (.inr (.inr _)) => .areturn
/-- the walk's own facts: of the machine, the method, its room (d frames deep, MC cells of MS slots), and what a return needs -/
def Cx (p : Program) (l : Launch) (e : Env) (R : Room) (s : State) (m : MethodId) (args : Array Value) (below : List Frame) (meth : Method) (c : Code) (Z : State → Prop) (E : Ev) (F : Nat → Prop) (cM sM : Nat) (M : MD) (d : Nat) (Q : QT) : Prop :=
  (p.tables.exec = Jvm.exec ∧ c.code = M.2.1 ∧ c.maxLocals = M.2.2.1 ∧ s.vm.findClass M.1.cls = some m.cls ∧ meth.name = M.1.name) ∧ SF E s ∧
  ((∀ q, s.heap.size ≤ q → F q) ∧ (∀ q, F q → eb E ≤ q)) ∧ (d ≤ R.frames ∧ 40 * d ≤ R.locals ∧ cM ≤ R.cells ∧ sM ≤ R.slots) ∧
  ∀ (H : Heap) (locs : List Loc) (lv : Array Slot) (pc : Nat) (r : Option MV) (h : MH) (sz : Nat), RW E h sz H → (∀ a c, h a = some c → F (eb E + a)) → va_S F s.heap H locs → (∀ v, r = some v → okV v) → okRet M.2.2.2 r → Q r h sz → decode M.2.1 pc = .ok (retI r, 1) →
    W p l e R s m args below meth c H locs cM sM Z (F0 m pc lv (r.toList.map (cv E)))
/-- THE WALK over pure worlds: from here the method comes to its end with Q; kc cells of ks slots may still be made -/
def V (M : MD) (d pc : Nat) (ls : List (Option MV)) (st : List MV) (h : MH) (sz kc ks : Nat) (Q : QT) : Prop :=
  ∀ (p : Program) (l : Launch) (e : Env) (R : Room) (s : State) (m : MethodId) (args : Array Value) (below : List Frame) (meth : Method) (c : Code) (Z : State → Prop) (E : Ev) (F : Nat → Prop) (cM sM : Nat),
    Cx p l e R s m args below meth c Z E F cM sM M d Q → ∀ (H : Heap) (locs : List Loc) (cells slots : Nat) (lv : Array Slot),
    RW E h sz H → (∀ a c, h a = some c → F (eb E + a)) → va_S F s.heap H locs → LL E M.2.2.1 ls lv → (∀ v ∈ st, okV v) → cells + kc ≤ cM → slots + ks ≤ sM →
    W p l e R s m args below meth c H locs cells slots Z (F0 m pc lv (st.map (cv E)))
/-- A CONTRACT over pure worlds: from h the method answers, and leaves a world, with Q -/
def cPre (E : Ev) (as : List MV) (h : MH) (sz : Nat) : Array Value → State → Prop := fun a U => a = (as.map (cv E)).toArray ∧ (∀ v ∈ as, okV v) ∧ SF E U ∧ RW E h sz U.heap
def cPost (E : Ev) (h : MH) (sz : Nat) (Q : QT) : Array Value → State → Outcome → State → Prop := fun _ st o t => ∃ (r : Option MV) (h2 : MH) (sz2 : Nat), o = .returned (r.map (cv E)) ∧ (∀ v, r = some v → okV v) ∧ Q r h2 sz2 ∧ RW E h2 sz2 t.heap ∧ (∀ a c, h2 a = some c → FR E h sz (eb E + a)) ∧ va_F (FR E h sz) st t
def Ct (M : MD) (d mc ms : Nat) (as : List MV) (h : MH) (sz : Nat) (Q : QT) : Prop :=
  ∀ (l : Launch) (E : Ev), Met l M.1 [.code M.1 M.2.1 M.2.2.1 M.2.2.2] ({ frames := d, cells := mc, slots := ms, locals := 40 * d }) (cPre E as h sz) (cPost E h sz Q) mc ms (FR E h sz)
/-- locals at a method's entry -/
def lsOf : List MV → List (Option MV)
  | [] => []
  | .inr (.inl z) :: t => some (vL z) :: none :: lsOf t
  | v :: t => some v :: lsOf t
end
section
theorem cv_cat (E : Ev) (v : MV) : (cv E v).category = (match v with | .inr (.inl _) => 2 | _ => 1) := by
  rcases v with z | z | o | k
  · rfl
  · rfl
  · cases o <;> rfl
  · rfl
theorem lsOf_len (E : Ev) : ∀ as : List MV, (lg_sl (as.map (cv E))).length = (lsOf as).length
  | [] => rfl
  | .inr (.inl z) :: t => by
    have ih := lsOf_len E t
    simp only [lg_sl] at ih
    simp only [List.map_cons, lg_sl, List.flatMap_cons, List.length_append, lsOf, List.length_cons, ih]
    simp [cv, Value.category]; omega
  | .inl z :: t => by
    have ih := lsOf_len E t
    simp only [lg_sl] at ih
    simp only [List.map_cons, lg_sl, List.flatMap_cons, List.length_append, lsOf, List.length_cons, ih]
    simp [cv, Value.category]; omega
  | .inr (.inr (.inl none)) :: t => by
    have ih := lsOf_len E t
    simp only [lg_sl] at ih
    simp only [List.map_cons, lg_sl, List.flatMap_cons, List.length_append, lsOf, List.length_cons, ih]
    simp [cv, Value.category]; omega
  | .inr (.inr (.inl (some a))) :: t => by
    have ih := lsOf_len E t
    simp only [lg_sl] at ih
    simp only [List.map_cons, lg_sl, List.flatMap_cons, List.length_append, lsOf, List.length_cons, ih]
    simp [cv, Value.category]; omega
  | .inr (.inr (.inr k)) :: t => by
    have ih := lsOf_len E t
    simp only [lg_sl] at ih
    simp only [List.map_cons, lg_sl, List.flatMap_cons, List.length_append, lsOf, List.length_cons, ih]
    simp [cv, Value.category]; omega
theorem lsOf_cons (v : MV) (t : List MV) : lsOf (v :: t) = (match v with | .inr (.inl z) => some (vL z) :: none :: lsOf t | w => some w :: lsOf t) := by
  rcases v with z | z | o | k <;> rfl
theorem lsOf_mem (E : Ev) : ∀ (as : List MV) (k i : Nat) (v : MV), lk (lsOf as) i = some v → (k + i, cv E v) ∈ lv_args k (as.map (cv E)) ∧ v ∈ as
  | [], k, i, v, h => by simp [lsOf, lk] at h
  | w :: t, k, i, v, h => by
    rw [List.map_cons, lv_args, cv_cat]
    rw [lsOf_cons] at h
    rcases w with z | z | o | q
    · match i, h with
      | 0, h => cases h; exact ⟨List.mem_cons_self, List.mem_cons_self⟩
      | i + 1, h =>
        have ih := lsOf_mem E t (k + 1) i v h
        refine ⟨List.mem_cons_of_mem _ ?_, List.mem_cons_of_mem _ ih.2⟩
        rw [show k + (i + 1) = k + 1 + i by omega]; exact ih.1
    · match i, h with
      | 0, h => cases h; exact ⟨List.mem_cons_self, List.mem_cons_self⟩
      | 1, h => cases h
      | i + 2, h =>
        have ih := lsOf_mem E t (k + 2) i v h
        refine ⟨List.mem_cons_of_mem _ ?_, List.mem_cons_of_mem _ ih.2⟩
        rw [show k + (i + 2) = k + 2 + i by omega]; exact ih.1
    · match i, h with
      | 0, h => cases h; exact ⟨List.mem_cons_self, List.mem_cons_self⟩
      | i + 1, h =>
        have ih := lsOf_mem E t (k + 1) i v h
        refine ⟨List.mem_cons_of_mem _ ?_, List.mem_cons_of_mem _ ih.2⟩
        rw [show k + (i + 1) = k + 1 + i by omega]; exact ih.1
    · match i, h with
      | 0, h => cases h; exact ⟨List.mem_cons_self, List.mem_cons_self⟩
      | i + 1, h =>
        have ih := lsOf_mem E t (k + 1) i v h
        refine ⟨List.mem_cons_of_mem _ ?_, List.mem_cons_of_mem _ ih.2⟩
        rw [show k + (i + 1) = k + 1 + i by omega]; exact ih.1
theorem LL_entry (E : Ev) (as : List MV) (nL : Nat) (hl : (lsOf as).length ≤ nL) (hok : ∀ v ∈ as, okV v) : LL E nL (lsOf as) ((lg_sl (as.map (cv E)) ++ List.replicate (nL - (lg_sl (as.map (cv E))).length) Slot.unset).toArray) := by
  have h := lv_entry (as.map (cv E)) (n := nL) (by rw [lsOf_len]; exact hl)
  refine ⟨h.1, h.2.1, fun i v hv => ?_⟩
  have hm := lsOf_mem E as 0 i v hv
  rw [Nat.zero_add] at hm
  exact ⟨h.2.2 _ hm.1, hok v hm.2⟩
theorem RW.lt {E : Ev} {h : MH} {sz a : Nat} {c : MC} {H : Heap} (hR : RW E h sz H) (ha : h a = some c) : a < sz := by
  have := (hR.2 a c ha).2.lt
  have h1 := hR.1
  simp only at this
  omega
theorem SF.base {E : Ev} {s : State} (h : SF E s) : eb E ≤ s.heap.size := h.2.2.2.2.2.2.2.2.1
theorem Ct.of {M : MD} {d mc ms : Nat} {as : List MV} {h : MH} {sz : Nat} {Q : QT} (hp : plainName M.1.cls = true) (hl : (lsOf as).length ≤ M.2.2.1) (hV : V M d 0 (lsOf as) [] h sz mc ms Q) : Ct M d mc ms as h sz Q := by
  intro l E
  refine Met.ofW (cc := M.2.1) (maxL := M.2.2.1) (ret := M.2.2.2) hp rfl ?_
  intro p e s m args below meth c s₁ B hml hv
  obtain ⟨rfl, hok, hSF, hRW⟩ := hv
  have hx := B.exec
  have hb := B.bytes
  have hr := B.returns
  have hown : s.vm.findClass M.1.cls = some m.cls := findClass_of_methodNamed B.named
  have hlocks := B.notSynchronized
  have hnm : meth.name = M.1.name := (name_of_methodNamed B.named B.method).1
  rw [lg_entry_eq]
  have hL := LL_entry E as M.2.2.1 hl hok
  refine hV p l e _ s m _ below meth c _ E (FR E h sz) mc ms ⟨⟨hx, hb, hml, hown, hnm⟩, hSF, ⟨fun q hq => Or.inr (by rw [← hRW.1]; exact hq), ?_⟩, ⟨Nat.le_refl _, Nat.le_refl _, Nat.le_refl _, Nat.le_refl _⟩, ?_⟩ s.heap [] 0 0 _ hRW (fun a c ha => Or.inl ⟨a, c, ha, rfl⟩) va_S.rf hL (fun v hv => by cases hv) (by omega) (by omega)
  · intro q hq
    rcases hq with ⟨a, c, -, rfl⟩ | hq
    · exact Nat.le_add_right _ _
    · omega
  · intro H locs lv pc r h2 sz2 hR2 hF2 hS2 hok2 hrt hQ hd
    have post : ∀ t : State, t.heap = H → s.WarmedH t.vm → cPost E h sz Q (as.map (cv E)).toArray s (.returned (r.map (cv E))) t := fun t ht hW => ⟨r, h2, sz2, rfl, hok2, hQ, by rw [ht]; exact hR2, hF2, by rw [ht]; exact hS2.1, by rw [ht]; exact hS2.2.1⟩
    rcases r with - | (z | z | o | k)
    · exact W.vret hx hb (by rw [hr]; exact hrt) post hS2.2.2 hd
    · rcases hrt with h1 | ⟨h1, h3⟩
      · exact W.iret hx hb (by rw [hr]; exact h1) post hS2.2.2 hd
      · refine W.zret (ty := .boolean) hx hb (by rw [hr]; exact h1) ?_ post hS2.2.2 hd
        rcases h3 with rfl | rfl <;> rfl
    · exact W.lret hx hb (by rw [hr]; exact hrt) post hS2.2.2 hd
    · have hv : cv E (.inr (.inr (.inl o))) = .null ∨ ∃ a, cv E (.inr (.inr (.inl o))) = .ref a := by
        cases o with
        | none => exact Or.inl rfl
        | some a => exact Or.inr ⟨_, rfl⟩
      rcases hrt with ⟨t, h1⟩ | ⟨t, h1⟩
      · exact W.aret (rt := .array t) hx hb (by rw [hr]; exact h1) (Or.inr ⟨t, rfl⟩) hv post hS2.2.2 hd
      · exact W.aret (rt := .object t) hx hb (by rw [hr]; exact h1) (Or.inl ⟨t, rfl⟩) hv post hS2.2.2 hd
    · have hv : cv E (.inr (.inr (.inr k))) = .null ∨ ∃ a, cv E (.inr (.inr (.inr k))) = .ref a := Or.inr ⟨_, rfl⟩
      rcases hrt with ⟨t, h1⟩ | ⟨t, h1⟩
      · exact W.aret (rt := .array t) hx hb (by rw [hr]; exact h1) (Or.inr ⟨t, rfl⟩) hv post hS2.2.2 hd
      · exact W.aret (rt := .object t) hx hb (by rw [hr]; exact h1) (Or.inl ⟨t, rfl⟩) hv post hS2.2.2 hd
end
