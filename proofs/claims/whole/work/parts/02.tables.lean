/-! tables of the program: classes, fields, methods, links (written by program out of the Statement's words) -/
theorem xin {w : Cond} (i : Nat) (h : tables_1[i]? = some w) : w ∈ lw_tbl := List.mem_append_right _ (List.mem_of_getElem? h)
def xownL : List String := ["ZoneNet", "java/lang/StringBuilder", "ZoneNet$Mesh", "ZoneNet$Line", "java/lang/String", "ZoneNet$Network", "ZoneNet$Router", "ZoneNet$Entry", "ZoneNet$Pattern", "ZoneNet$Service", "ZoneNet$Listed", "ZoneNet$Session", "ZoneNetModel", "ZoneNetLaw", "ZoneNet$Names", "java/lang/AbstractStringBuilder", "java/lang/Integer", "java/lang/Math", "java/lang/StringLatin1", "java/util/Arrays", "jdk/internal/util/ArraysSupport", "jdk/internal/util/Preconditions"]
def xown (n : Nat) : String := xownL.getD n ""
def xT0 : u_T := fun k => match k with
  | 0 => ("ZoneNet", "interval", "I", true)
  | 1 => ("ZoneNet", "tries", "I", true)
  | 2 => ("ZoneNet", "release", "I", true)
  | 3 => ("ZoneNet", "text", "Ljava/lang/StringBuilder;", true)
  | 4 => ("ZoneNet", "mesh", "LZoneNet$Mesh;", true)
  | 5 => ("ZoneNet", "line", "LZoneNet$Line;", true)
  | 6 => ("ZoneNet", "services", "[LZoneNet$Service;", true)
  | 7 => ("ZoneNet", "serviceCount", "I", false)
  | 8 => ("ZoneNet", "sessions", "[LZoneNet$Session;", true)
  | 9 => ("ZoneNet", "sessionCount", "I", false)
  | 10 => ("ZoneNet", "foundServices", "[I", true)
  | 11 => ("ZoneNet", "foundCount", "I", false)
  | 12 => ("ZoneNet", "hopsToNetwork", "[I", true)
  | 13 => ("ZoneNet", "namesakes", "[I", true)
  | _ => ("ZoneNet", "now", "I", false)
def xT1 : u_T := fun k => match k with
  | 0 => ("java/lang/AbstractStringBuilder", "value", "[B", false)
  | 1 => ("java/lang/AbstractStringBuilder", "coder", "B", false)
  | 2 => ("java/lang/AbstractStringBuilder", "maybeLatin1", "Z", false)
  | _ => ("java/lang/AbstractStringBuilder", "count", "I", false)
def xT2 : u_T := fun k => match k with
  | 0 => ("ZoneNet$Mesh", "networks", "[LZoneNet$Network;", true)
  | 1 => ("ZoneNet$Mesh", "networkCount", "I", false)
  | 2 => ("ZoneNet$Mesh", "routers", "[LZoneNet$Router;", true)
  | _ => ("ZoneNet$Mesh", "routerCount", "I", false)
def xT3 : u_T := fun k => match k with
  | 0 => ("ZoneNet$Line", "mesh", "LZoneNet$Mesh;", true)
  | 1 => ("ZoneNet$Line", "faultBits", "I", false)
  | _ => ("ZoneNet$Line", "sent", "I", false)
def xT4 : u_T := fun k => match k with
  | 0 => ("java/lang/String", "value", "[B", true)
  | _ => ("java/lang/String", "coder", "B", true)
def xT5 : u_T := fun k => match k with
  | 0 => ("ZoneNet$Network", "zone", "Ljava/lang/String;", true)
  | _ => ("ZoneNet$Network", "nodes", "[Z", true)
def xT6 : u_T := fun k => match k with
  | 0 => ("ZoneNet$Router", "ports", "[Z", true)
  | 1 => ("ZoneNet$Router", "portCount", "I", true)
  | 2 => ("ZoneNet$Router", "on", "Z", false)
  | 3 => ("ZoneNet$Router", "table", "[LZoneNet$Entry;", true)
  | 4 => ("ZoneNet$Router", "told", "[I", true)
  | _ => ("ZoneNet$Router", "untoldPort", "[I", true)
def xT7 : u_T := fun k => match k with
  | 0 => ("ZoneNet$Entry", "there", "Z", false)
  | 1 => ("ZoneNet$Entry", "distance", "I", false)
  | 2 => ("ZoneNet$Entry", "next", "I", false)
  | 3 => ("ZoneNet$Entry", "port", "I", false)
  | 4 => ("ZoneNet$Entry", "health", "I", false)
  | 5 => ("ZoneNet$Entry", "zoneKnown", "Z", false)
  | _ => ("ZoneNet$Entry", "zoneWasKnown", "Z", false)
def xT8 : u_T := fun k => match k with
  | 0 => ("ZoneNet$Pattern", "object", "Ljava/lang/String;", true)
  | 1 => ("ZoneNet$Pattern", "type", "Ljava/lang/String;", true)
  | _ => ("ZoneNet$Pattern", "zone", "Ljava/lang/String;", true)
def xT9 : u_T := fun k => match k with
  | 0 => ("ZoneNet$Service", "network", "I", true)
  | 1 => ("ZoneNet$Service", "object", "Ljava/lang/String;", true)
  | 2 => ("ZoneNet$Service", "type", "Ljava/lang/String;", true)
  | 3 => ("ZoneNet$Service", "dropped", "Z", false)
  | 4 => ("ZoneNet$Service", "records", "[I", true)
  | 5 => ("ZoneNet$Service", "doneCount", "I", false)
  | _ => ("ZoneNet$Service", "list", "[LZoneNet$Listed;", true)
def xT10 : u_T := fun k => match k with
  | 0 => ("ZoneNet$Listed", "used", "Z", false)
  | 1 => ("ZoneNet$Listed", "session", "I", false)
  | 2 => ("ZoneNet$Listed", "number", "I", false)
  | 3 => ("ZoneNet$Listed", "answer", "I", false)
  | _ => ("ZoneNet$Listed", "time", "I", false)
def xT11 : u_T := fun k => match k with
  | 0 => ("ZoneNet$Session", "index", "I", true)
  | 1 => ("ZoneNet$Session", "network", "I", true)
  | 2 => ("ZoneNet$Session", "service", "LZoneNet$Service;", true)
  | 3 => ("ZoneNet$Session", "closed", "Z", false)
  | 4 => ("ZoneNet$Session", "silence", "I", false)
  | 5 => ("ZoneNet$Session", "number", "I", false)
  | 6 => ("ZoneNet$Session", "state", "I", false)
  | 7 => ("ZoneNet$Session", "key", "I", false)
  | 8 => ("ZoneNet$Session", "value", "I", false)
  | 9 => ("ZoneNet$Session", "missingParts", "I", false)
  | 10 => ("ZoneNet$Session", "tried", "I", false)
  | 11 => ("ZoneNet$Session", "triedAt", "I", false)
  | _ => ("ZoneNet$Session", "latestAnswer", "I", false)
def xT12 : u_T := fun k => match k with
  | 0 => ("ZoneNetModel", "interval", "I", true)
  | 1 => ("ZoneNetModel", "tries", "I", true)
  | 2 => ("ZoneNetModel", "release", "I", true)
  | 3 => ("ZoneNetModel", "text", "[C", true)
  | 4 => ("ZoneNetModel", "size", "I", false)
  | 5 => ("ZoneNetModel", "letters", "[C", true)
  | 6 => ("ZoneNetModel", "lengths", "[I", true)
  | 7 => ("ZoneNetModel", "networks", "I", false)
  | 8 => ("ZoneNetModel", "node", "[Z", true)
  | 9 => ("ZoneNetModel", "routers", "I", false)
  | 10 => ("ZoneNetModel", "ports", "[I", true)
  | 11 => ("ZoneNetModel", "on", "[Z", true)
  | 12 => ("ZoneNetModel", "far", "[I", true)
  | 13 => ("ZoneNetModel", "next", "[I", true)
  | 14 => ("ZoneNetModel", "port", "[I", true)
  | 15 => ("ZoneNetModel", "health", "[I", true)
  | 16 => ("ZoneNetModel", "known", "[Z", true)
  | 17 => ("ZoneNetModel", "oldFar", "[I", true)
  | 18 => ("ZoneNetModel", "oldPort", "[I", true)
  | 19 => ("ZoneNetModel", "oldHealth", "[I", true)
  | 20 => ("ZoneNetModel", "oldKnown", "[Z", true)
  | 21 => ("ZoneNetModel", "now", "I", false)
  | 22 => ("ZoneNetModel", "services", "I", false)
  | 23 => ("ZoneNetModel", "home", "[I", true)
  | 24 => ("ZoneNetModel", "dropped", "[Z", true)
  | 25 => ("ZoneNetModel", "records", "[I", true)
  | 26 => ("ZoneNetModel", "commands", "[I", true)
  | 27 => ("ZoneNetModel", "listed", "[I", true)
  | 28 => ("ZoneNetModel", "entrySession", "[I", true)
  | 29 => ("ZoneNetModel", "entryNumber", "[I", true)
  | 30 => ("ZoneNetModel", "entryAnswer", "[I", true)
  | 31 => ("ZoneNetModel", "entryTime", "[I", true)
  | 32 => ("ZoneNetModel", "found", "[I", true)
  | 33 => ("ZoneNetModel", "founds", "I", false)
  | 34 => ("ZoneNetModel", "sessions", "I", false)
  | 35 => ("ZoneNetModel", "client", "[I", true)
  | 36 => ("ZoneNetModel", "server", "[I", true)
  | 37 => ("ZoneNetModel", "closed", "[Z", true)
  | 38 => ("ZoneNetModel", "silence", "[I", true)
  | 39 => ("ZoneNetModel", "given", "[I", true)
  | 40 => ("ZoneNetModel", "state", "[I", true)
  | 41 => ("ZoneNetModel", "key", "[I", true)
  | 42 => ("ZoneNetModel", "value", "[I", true)
  | 43 => ("ZoneNetModel", "lacking", "[I", true)
  | 44 => ("ZoneNetModel", "tried", "[I", true)
  | 45 => ("ZoneNetModel", "latest", "[I", true)
  | 46 => ("ZoneNetModel", "answer", "[I", true)
  | 47 => ("ZoneNetModel", "losses", "I", false)
  | _ => ("ZoneNetModel", "sent", "I", false)
def xcl : List vw_C := [("ZoneNet", xT0, 15), ("java/lang/StringBuilder", xT1, 4), ("ZoneNet$Mesh", xT2, 4), ("ZoneNet$Line", xT3, 3), ("java/lang/String", xT4, 2), ("ZoneNet$Network", xT5, 2), ("ZoneNet$Router", xT6, 6), ("ZoneNet$Entry", xT7, 7), ("ZoneNet$Pattern", xT8, 3), ("ZoneNet$Service", xT9, 7), ("ZoneNet$Listed", xT10, 5), ("ZoneNet$Session", xT11, 13), ("ZoneNetModel", xT12, 49)]
def xaciL : List Nat := [5, 6, 9, 11, 7, 10]
/-- the class of the elements of an array of references -/
def xaci (t : Nat) : Nat := xaciL.getD (t - 4) 999
def xaty (t : Nat) : FieldType := match t with
  | 0 => .int
  | 1 => .byte
  | 2 => .boolean
  | 3 => .char
  | t => .object ((xcl[xaci t]?).elim "" (fun q => q.1))
abbrev xK : Type := MethodName × ByteArray × Nat × Option FieldType × Nat × Nat × Nat × Nat × Nat
def xm0 : xK := (⟨"ZoneNetLaw", "law", "([I)Z"⟩, code, 4, ret, 14, 538, 600000, 7302250, 13)
def xm1 : xK := (⟨"ZoneNetLaw", "cell", "([II)I"⟩, method_2_code, 2, (Option.some Jvm.ClassFile.FieldType.int), 1, 40, 0, 0, 13)
def xm2 : xK := (⟨"ZoneNet", "<init>", "(III)V"⟩, prog_1_method_1_code, 4, (Option.none : Option Jvm.ClassFile.FieldType), 3, 81, 12, 120, 0)
def xm3 : xK := (⟨"ZoneNet", "write", "(C)Z"⟩, prog_1_method_2_code, 2, (Option.some Jvm.ClassFile.FieldType.boolean), 6, 152, 1, 34, 0)
def xm4 : xK := (⟨"ZoneNet", "network", "()I"⟩, prog_1_method_3_code, 2, (Option.some Jvm.ClassFile.FieldType.int), 8, 193, 5, 82, 0)
def xm5 : xK := (⟨"ZoneNet", "router", "(I)I"⟩, prog_1_method_4_code, 2, (Option.some Jvm.ClassFile.FieldType.int), 4, 106, 13, 94, 0)
def xm6 : xK := (⟨"ZoneNet", "power", "(IZ)Z"⟩, prog_1_method_5_code, 3, (Option.some Jvm.ClassFile.FieldType.boolean), 3, 83, 0, 0, 0)
def xm7 : xK := (⟨"ZoneNet", "node", "(II)I"⟩, prog_1_method_6_code, 3, (Option.some Jvm.ClassFile.FieldType.int), 3, 86, 0, 0, 0)
def xm8 : xK := (⟨"ZoneNet", "name", "(I)I"⟩, prog_1_method_7_code, 4, (Option.some Jvm.ClassFile.FieldType.int), 9, 222, 19, 210, 0)
def xm9 : xK := (⟨"ZoneNet", "drop", "(I)Z"⟩, prog_1_method_8_code, 2, (Option.some Jvm.ClassFile.FieldType.boolean), 2, 61, 0, 0, 0)
def xm10 : xK := (⟨"ZoneNet", "lookup", "(I)I"⟩, prog_1_method_9_code, 3, (Option.some Jvm.ClassFile.FieldType.int), 9, 222, 10, 189, 0)
def xm11 : xK := (⟨"ZoneNet", "found", "(I)I"⟩, prog_1_method_10_code, 2, (Option.some Jvm.ClassFile.FieldType.int), 1, 40, 0, 0, 0)
def xm12 : xK := (⟨"ZoneNet", "tick", "()I"⟩, prog_1_method_11_code, 2, (Option.some Jvm.ClassFile.FieldType.int), 7, 178, 0, 0, 0)
def xm13 : xK := (⟨"ZoneNet", "route", "(II)I"⟩, prog_1_method_12_code, 3, (Option.some Jvm.ClassFile.FieldType.int), 2, 61, 0, 0, 0)
def xm14 : xK := (⟨"ZoneNet", "hops", "(II)I"⟩, prog_1_method_13_code, 3, (Option.some Jvm.ClassFile.FieldType.int), 3, 87, 0, 0, 0)
def xm15 : xK := (⟨"ZoneNet", "open", "(II)I"⟩, prog_1_method_14_code, 4, (Option.some Jvm.ClassFile.FieldType.int), 4, 109, 1, 13, 0)
def xm16 : xK := (⟨"ZoneNet", "command", "(IIII)I"⟩, prog_1_method_15_code, 6, (Option.some Jvm.ClassFile.FieldType.int), 6, 156, 0, 0, 0)
def xm17 : xK := (⟨"ZoneNet", "status", "(I)I"⟩, prog_1_method_16_code, 2, (Option.some Jvm.ClassFile.FieldType.int), 2, 61, 0, 0, 0)
def xm18 : xK := (⟨"ZoneNet", "reply", "(I)I"⟩, prog_1_method_17_code, 2, (Option.some Jvm.ClassFile.FieldType.int), 2, 61, 0, 0, 0)
def xm19 : xK := (⟨"ZoneNet", "missing", "(I)I"⟩, prog_1_method_18_code, 2, (Option.some Jvm.ClassFile.FieldType.int), 2, 61, 0, 0, 0)
def xm20 : xK := (⟨"ZoneNet", "ledger", "(II)I"⟩, prog_1_method_19_code, 3, (Option.some Jvm.ClassFile.FieldType.int), 3, 83, 0, 0, 0)
def xm21 : xK := (⟨"ZoneNet", "faults", "(I)V"⟩, prog_1_method_20_code, 2, (Option.none : Option Jvm.ClassFile.FieldType), 1, 40, 0, 0, 0)
def xm22 : xK := (⟨"ZoneNet", "packets", "()I"⟩, prog_1_method_21_code, 1, (Option.some Jvm.ClassFile.FieldType.int), 1, 40, 0, 0, 0)
def xm23 : xK := (⟨"ZoneNet", "takeText", "()Ljava/lang/String;"⟩, prog_1_method_22_code, 2, (Option.some (Jvm.ClassFile.FieldType.object "java/lang/String")), 7, 172, 3, 72, 0)
def xm24 : xK := (⟨"ZoneNet", "look", "(ILZoneNet$Pattern;[I)I"⟩, prog_1_method_25_code, 9, (Option.some Jvm.ClassFile.FieldType.int), 8, 194, 0, 0, 0)
def xm25 : xK := (⟨"ZoneNet", "hasService", "(I)Z"⟩, prog_1_method_23_code, 2, (Option.some Jvm.ClassFile.FieldType.boolean), 1, 40, 0, 0, 0)
def xm26 : xK := (⟨"ZoneNet", "releaseOld", "()V"⟩, prog_1_method_26_code, 2, (Option.none : Option Jvm.ClassFile.FieldType), 2, 62, 0, 0, 0)
def xm27 : xK := (⟨"ZoneNet", "countSilence", "()V"⟩, prog_1_method_27_code, 3, (Option.none : Option Jvm.ClassFile.FieldType), 4, 109, 0, 0, 0)
def xm28 : xK := (⟨"ZoneNet", "tryAgain", "()V"⟩, prog_1_method_28_code, 3, (Option.none : Option Jvm.ClassFile.FieldType), 6, 156, 0, 0, 0)
def xm29 : xK := (⟨"ZoneNet", "hasSession", "(I)Z"⟩, prog_1_method_24_code, 2, (Option.some Jvm.ClassFile.FieldType.boolean), 1, 40, 0, 0, 0)
def xm30 : xK := (⟨"ZoneNet", "tryOnce", "(LZoneNet$Session;)V"⟩, prog_1_method_29_code, 4, (Option.none : Option Jvm.ClassFile.FieldType), 5, 133, 0, 0, 0)
def xm31 : xK := (⟨"ZoneNet", "sendMissingParts", "(LZoneNet$Session;)V"⟩, prog_1_method_30_code, 4, (Option.none : Option Jvm.ClassFile.FieldType), 4, 110, 0, 0, 0)
def xm32 : xK := (⟨"ZoneNet$Mesh", "<init>", "()V"⟩, prog_5_method_1_code, 1, (Option.none : Option Jvm.ClassFile.FieldType), 1, 40, 2, 14, 2)
def xm33 : xK := (⟨"ZoneNet$Mesh", "addNetwork", "(Ljava/lang/String;)I"⟩, prog_5_method_5_code, 2, (Option.some Jvm.ClassFile.FieldType.int), 2, 61, 2, 10, 2)
def xm34 : xK := (⟨"ZoneNet$Mesh", "addRouter", "(I)I"⟩, prog_5_method_6_code, 4, (Option.some Jvm.ClassFile.FieldType.int), 3, 83, 13, 94, 2)
def xm35 : xK := (⟨"ZoneNet$Mesh", "hasRouter", "(I)Z"⟩, prog_5_method_3_code, 2, (Option.some Jvm.ClassFile.FieldType.boolean), 1, 40, 0, 0, 2)
def xm36 : xK := (⟨"ZoneNet$Mesh", "addNode", "(II)I"⟩, prog_5_method_7_code, 6, (Option.some Jvm.ClassFile.FieldType.int), 2, 61, 0, 0, 2)
def xm37 : xK := (⟨"ZoneNet$Mesh", "hasNode", "(I)Z"⟩, prog_5_method_4_code, 2, (Option.some Jvm.ClassFile.FieldType.boolean), 2, 61, 0, 0, 2)
def xm38 : xK := (⟨"ZoneNet$Mesh", "tellPairs", "()I"⟩, prog_5_method_11_code, 3, (Option.some Jvm.ClassFile.FieldType.int), 2, 63, 0, 0, 2)
def xm39 : xK := (⟨"ZoneNet$Mesh", "ageEntries", "()V"⟩, prog_5_method_12_code, 3, (Option.none : Option Jvm.ClassFile.FieldType), 3, 80, 0, 0, 2)
def xm40 : xK := (⟨"ZoneNet$Mesh", "takePairs", "()V"⟩, prog_5_method_13_code, 3, (Option.none : Option Jvm.ClassFile.FieldType), 4, 108, 0, 0, 2)
def xm41 : xK := (⟨"ZoneNet$Mesh", "learnZones", "()V"⟩, prog_5_method_14_code, 4, (Option.none : Option Jvm.ClassFile.FieldType), 2, 61, 0, 0, 2)
def xm42 : xK := (⟨"ZoneNet$Mesh", "hasNetwork", "(I)Z"⟩, prog_5_method_2_code, 2, (Option.some Jvm.ClassFile.FieldType.boolean), 1, 40, 0, 0, 2)
def xm43 : xK := (⟨"ZoneNet$Mesh", "countHops", "(II)I"⟩, prog_5_method_8_code, 6, (Option.some Jvm.ClassFile.FieldType.int), 2, 62, 0, 0, 2)
def xm44 : xK := (⟨"ZoneNet$Mesh", "areJoined", "(II)Z"⟩, prog_5_method_9_code, 3, (Option.some Jvm.ClassFile.FieldType.boolean), 3, 87, 0, 0, 2)
def xm45 : xK := (⟨"ZoneNet$Mesh", "lookAround", "(ILjava/lang/String;[I)V"⟩, prog_5_method_10_code, 9, (Option.none : Option Jvm.ClassFile.FieldType), 4, 109, 0, 0, 2)
def xm46 : xK := (⟨"ZoneNet$Mesh", "firstRouter", "(I)I"⟩, prog_5_method_15_code, 3, (Option.some Jvm.ClassFile.FieldType.int), 1, 40, 0, 0, 2)
def xm47 : xK := (⟨"ZoneNet$Router", "turn", "(Z)V"⟩, prog_9_method_2_code, 3, (Option.none : Option Jvm.ClassFile.FieldType), 2, 61, 0, 0, 6)
def xm48 : xK := (⟨"ZoneNet$Router", "<init>", "(I)V"⟩, prog_9_method_1_code, 3, (Option.none : Option Jvm.ClassFile.FieldType), 2, 60, 12, 88, 6)
def xm49 : xK := (⟨"ZoneNet$Router", "tellPairs", "()I"⟩, prog_9_method_3_code, 4, (Option.some Jvm.ClassFile.FieldType.int), 1, 40, 0, 0, 6)
def xm50 : xK := (⟨"ZoneNet$Router", "takeFrom", "(LZoneNet$Router;I)V"⟩, prog_9_method_4_code, 5, (Option.none : Option Jvm.ClassFile.FieldType), 3, 84, 0, 0, 6)
def xm51 : xK := (⟨"ZoneNet$Entry", "inOneNumber", "()I"⟩, prog_2_method_6_code, 2, (Option.some Jvm.ClassFile.FieldType.int), 1, 40, 0, 0, 7)
def xm52 : xK := (⟨"ZoneNet$Entry", "becomeOwn", "(I)V"⟩, prog_2_method_2_code, 2, (Option.none : Option Jvm.ClassFile.FieldType), 1, 40, 0, 0, 7)
def xm53 : xK := (⟨"ZoneNet$Entry", "remove", "()V"⟩, prog_2_method_3_code, 1, (Option.none : Option Jvm.ClassFile.FieldType), 1, 40, 0, 0, 7)
def xm54 : xK := (⟨"ZoneNet$Entry", "age", "()V"⟩, prog_2_method_4_code, 1, (Option.none : Option Jvm.ClassFile.FieldType), 2, 60, 0, 0, 7)
def xm55 : xK := (⟨"ZoneNet$Entry", "<init>", "()V"⟩, prog_2_method_1_code, 1, (Option.none : Option Jvm.ClassFile.FieldType), 1, 40, 0, 0, 7)
def xm56 : xK := (⟨"ZoneNet$Entry", "take", "(III)V"⟩, prog_2_method_5_code, 5, (Option.none : Option Jvm.ClassFile.FieldType), 2, 60, 0, 0, 7)
def xm57 : xK := (⟨"ZoneNet$Network", "<init>", "(Ljava/lang/String;)V"⟩, prog_7_method_1_code, 2, (Option.none : Option Jvm.ClassFile.FieldType), 1, 40, 1, 8, 5)
def xm58 : xK := (⟨"ZoneNet$Line", "<init>", "(LZoneNet$Mesh;)V"⟩, prog_3_method_1_code, 2, (Option.none : Option Jvm.ClassFile.FieldType), 1, 40, 0, 0, 3)
def xm59 : xK := (⟨"ZoneNet$Line", "carries", "(II)Z"⟩, prog_3_method_2_code, 4, (Option.some Jvm.ClassFile.FieldType.boolean), 3, 87, 0, 0, 3)
def xm60 : xK := (⟨"ZoneNet$Service", "<init>", "(ILjava/lang/String;Ljava/lang/String;)V"⟩, prog_10_method_1_code, 5, (Option.none : Option Jvm.ClassFile.FieldType), 2, 60, 10, 52, 9)
def xm61 : xK := (⟨"ZoneNet$Service", "account", "(I)I"⟩, prog_10_method_6_code, 2, (Option.some Jvm.ClassFile.FieldType.int), 2, 62, 0, 0, 9)
def xm62 : xK := (⟨"ZoneNet$Service", "fits", "(LZoneNet$Pattern;)Z"⟩, prog_10_method_2_code, 2, (Option.some Jvm.ClassFile.FieldType.boolean), 7, 173, 0, 0, 9)
def xm63 : xK := (⟨"ZoneNet$Service", "releaseUpTo", "(I)V"⟩, prog_10_method_5_code, 3, (Option.none : Option Jvm.ClassFile.FieldType), 1, 40, 0, 0, 9)
def xm64 : xK := (⟨"ZoneNet$Service", "entryFor", "(LZoneNet$Session;)LZoneNet$Listed;"⟩, prog_10_method_3_code, 5, (Option.some (Jvm.ClassFile.FieldType.object "ZoneNet$Listed")), 2, 63, 0, 0, 9)
def xm65 : xK := (⟨"ZoneNet$Service", "countListed", "()I"⟩, prog_10_method_7_code, 3, (Option.some Jvm.ClassFile.FieldType.int), 1, 40, 0, 0, 9)
def xm66 : xK := (⟨"ZoneNet$Service", "carryOut", "(II)I"⟩, prog_10_method_4_code, 4, (Option.some Jvm.ClassFile.FieldType.int), 1, 40, 0, 0, 9)
def xm67 : xK := (⟨"ZoneNet$Listed", "<init>", "()V"⟩, prog_4_method_1_code, 1, (Option.none : Option Jvm.ClassFile.FieldType), 1, 40, 0, 0, 10)
def xm68 : xK := (⟨"ZoneNet$Session", "<init>", "(IILZoneNet$Service;)V"⟩, prog_11_method_1_code, 4, (Option.none : Option Jvm.ClassFile.FieldType), 1, 40, 0, 0, 11)
def xm69 : xK := (⟨"ZoneNet$Session", "begin", "(III)V"⟩, prog_11_method_2_code, 4, (Option.none : Option Jvm.ClassFile.FieldType), 1, 40, 0, 0, 11)
def xm70 : xK := (⟨"ZoneNet$Session", "hear", "(Z)V"⟩, prog_11_method_3_code, 2, (Option.none : Option Jvm.ClassFile.FieldType), 1, 40, 0, 0, 11)
def xm71 : xK := (⟨"ZoneNet$Pattern", "ofNames", "(Ljava/lang/String;)LZoneNet$Pattern;"⟩, prog_8_method_3_code, 4, (Option.some (Jvm.ClassFile.FieldType.object "ZoneNet$Pattern")), 7, 174, 5, 79, 8)
def xm72 : xK := (⟨"ZoneNet$Pattern", "of", "(Ljava/lang/String;)LZoneNet$Pattern;"⟩, prog_8_method_2_code, 7, (Option.some (Jvm.ClassFile.FieldType.object "ZoneNet$Pattern")), 8, 193, 7, 117, 8)
def xm73 : xK := (⟨"ZoneNet$Pattern", "<init>", "(Ljava/lang/String;Ljava/lang/String;Ljava/lang/String;)V"⟩, prog_8_method_1_code, 4, (Option.none : Option Jvm.ClassFile.FieldType), 1, 40, 0, 0, 8)
def xm74 : xK := (⟨"ZoneNet$Names", "isName", "(Ljava/lang/String;)Z"⟩, prog_6_method_2_code, 1, (Option.some Jvm.ClassFile.FieldType.boolean), 6, 153, 0, 0, 14)
def xm75 : xK := (⟨"ZoneNet$Names", "countSigns", "(Ljava/lang/String;)I"⟩, prog_6_method_5_code, 3, (Option.some Jvm.ClassFile.FieldType.int), 5, 131, 0, 0, 14)
def xm76 : xK := (⟨"ZoneNet$Names", "isMask", "(Ljava/lang/String;)Z"⟩, prog_6_method_3_code, 1, (Option.some Jvm.ClassFile.FieldType.boolean), 7, 173, 0, 0, 14)
def xm77 : xK := (⟨"ZoneNet$Names", "fits", "(Ljava/lang/String;Ljava/lang/String;)Z"⟩, prog_6_method_4_code, 4, (Option.some Jvm.ClassFile.FieldType.boolean), 6, 150, 0, 0, 14)
def xm78 : xK := (⟨"ZoneNet$Names", "isSame", "(Ljava/lang/String;ILjava/lang/String;II)Z"⟩, prog_6_method_6_code, 6, (Option.some Jvm.ClassFile.FieldType.boolean), 5, 125, 0, 0, 14)
def xm79 : xK := (⟨"ZoneNetModel", "<init>", "(III)V"⟩, prog_13_method_1_code, 5, (Option.none : Option Jvm.ClassFile.FieldType), 1, 40, 37, 3000, 12)
def xm80 : xK := (⟨"ZoneNetModel", "write", "(C)Z"⟩, prog_13_method_2_code, 2, (Option.some Jvm.ClassFile.FieldType.boolean), 1, 40, 0, 0, 12)
def xm81 : xK := (⟨"ZoneNetModel", "network", "()I"⟩, prog_13_method_14_code, 2, (Option.some Jvm.ClassFile.FieldType.int), 4, 106, 0, 0, 12)
def xm82 : xK := (⟨"ZoneNetModel", "router", "(I)I"⟩, prog_13_method_17_code, 5, (Option.some Jvm.ClassFile.FieldType.int), 3, 86, 0, 0, 12)
def xm83 : xK := (⟨"ZoneNetModel", "power", "(IZ)Z"⟩, prog_13_method_18_code, 3, (Option.some Jvm.ClassFile.FieldType.boolean), 3, 86, 0, 0, 12)
def xm84 : xK := (⟨"ZoneNetModel", "node", "(II)I"⟩, prog_13_method_19_code, 5, (Option.some Jvm.ClassFile.FieldType.int), 1, 40, 0, 0, 12)
def xm85 : xK := (⟨"ZoneNetModel", "name", "(I)I"⟩, prog_13_method_32_code, 3, (Option.some Jvm.ClassFile.FieldType.int), 6, 157, 0, 0, 12)
def xm86 : xK := (⟨"ZoneNetModel", "drop", "(I)Z"⟩, prog_13_method_34_code, 2, (Option.some Jvm.ClassFile.FieldType.boolean), 1, 40, 0, 0, 12)
def xm87 : xK := (⟨"ZoneNetModel", "lookup", "(I)I"⟩, prog_13_method_36_code, 3, (Option.some Jvm.ClassFile.FieldType.int), 6, 160, 0, 0, 12)
def xm88 : xK := (⟨"ZoneNetModel", "found", "(I)I"⟩, prog_13_method_38_code, 2, (Option.some Jvm.ClassFile.FieldType.int), 1, 40, 0, 0, 12)
def xm89 : xK := (⟨"ZoneNetModel", "tick", "()I"⟩, prog_13_method_30_code, 4, (Option.some Jvm.ClassFile.FieldType.int), 6, 157, 0, 0, 12)
def xm90 : xK := (⟨"ZoneNetModel", "route", "(II)I"⟩, prog_13_method_24_code, 4, (Option.some Jvm.ClassFile.FieldType.int), 1, 40, 0, 0, 12)
def xm91 : xK := (⟨"ZoneNetModel", "hops", "(II)I"⟩, prog_13_method_23_code, 3, (Option.some Jvm.ClassFile.FieldType.int), 4, 108, 0, 0, 12)
def xm92 : xK := (⟨"ZoneNetModel", "open", "(II)I"⟩, prog_13_method_40_code, 5, (Option.some Jvm.ClassFile.FieldType.int), 4, 108, 0, 0, 12)
def xm93 : xK := (⟨"ZoneNetModel", "command", "(IIII)I"⟩, prog_13_method_42_code, 5, (Option.some Jvm.ClassFile.FieldType.int), 6, 157, 0, 0, 12)
def xm94 : xK := (⟨"ZoneNetModel", "status", "(I)I"⟩, prog_13_method_48_code, 2, (Option.some Jvm.ClassFile.FieldType.int), 2, 61, 0, 0, 12)
def xm95 : xK := (⟨"ZoneNetModel", "reply", "(I)I"⟩, prog_13_method_49_code, 2, (Option.some Jvm.ClassFile.FieldType.int), 2, 61, 0, 0, 12)
def xm96 : xK := (⟨"ZoneNetModel", "missing", "(I)I"⟩, prog_13_method_50_code, 2, (Option.some Jvm.ClassFile.FieldType.int), 2, 61, 0, 0, 12)
def xm97 : xK := (⟨"ZoneNetModel", "ledger", "(II)I"⟩, prog_13_method_39_code, 3, (Option.some Jvm.ClassFile.FieldType.int), 1, 40, 0, 0, 12)
def xm98 : xK := (⟨"ZoneNetModel", "faults", "(I)V"⟩, prog_13_method_51_code, 2, (Option.none : Option Jvm.ClassFile.FieldType), 1, 40, 0, 0, 12)
def xm99 : xK := (⟨"ZoneNetModel", "packets", "()I"⟩, prog_13_method_52_code, 1, (Option.some Jvm.ClassFile.FieldType.int), 1, 40, 0, 0, 12)
def xm100 : xK := (⟨"ZoneNetModel", "isName", "(II)Z"⟩, prog_13_method_6_code, 3, (Option.some Jvm.ClassFile.FieldType.boolean), 3, 84, 0, 0, 12)
def xm101 : xK := (⟨"ZoneNetModel", "keep", "(III)V"⟩, prog_13_method_10_code, 5, (Option.none : Option Jvm.ClassFile.FieldType), 1, 40, 0, 0, 12)
def xm102 : xK := (⟨"ZoneNetModel", "fresh", "(I)V"⟩, prog_13_method_16_code, 5, (Option.none : Option Jvm.ClassFile.FieldType), 2, 62, 0, 0, 12)
def xm103 : xK := (⟨"ZoneNetModel", "isNode", "(I)Z"⟩, prog_13_method_20_code, 2, (Option.some Jvm.ClassFile.FieldType.boolean), 1, 40, 0, 0, 12)
def xm104 : xK := (⟨"ZoneNetModel", "make", "(I)I"⟩, prog_13_method_33_code, 5, (Option.some Jvm.ClassFile.FieldType.int), 5, 133, 0, 0, 12)
def xm105 : xK := (⟨"ZoneNetModel", "search", "(I)I"⟩, prog_13_method_37_code, 8, (Option.some Jvm.ClassFile.FieldType.int), 5, 133, 0, 0, 12)
def xm106 : xK := (⟨"ZoneNetModel", "copy", "()I"⟩, prog_13_method_25_code, 4, (Option.some Jvm.ClassFile.FieldType.int), 2, 62, 0, 0, 12)
def xm107 : xK := (⟨"ZoneNetModel", "age", "()V"⟩, prog_13_method_26_code, 2, (Option.none : Option Jvm.ClassFile.FieldType), 1, 40, 0, 0, 12)
def xm108 : xK := (⟨"ZoneNetModel", "takeAll", "(I)V"⟩, prog_13_method_28_code, 5, (Option.none : Option Jvm.ClassFile.FieldType), 2, 67, 0, 0, 12)
def xm109 : xK := (⟨"ZoneNetModel", "zones", "()V"⟩, prog_13_method_29_code, 2, (Option.none : Option Jvm.ClassFile.FieldType), 1, 40, 0, 0, 12)
def xm110 : xK := (⟨"ZoneNetModel", "strike", "(II)V"⟩, prog_13_method_45_code, 4, (Option.none : Option Jvm.ClassFile.FieldType), 1, 40, 0, 0, 12)
def xm111 : xK := (⟨"ZoneNetModel", "silent", "(I)V"⟩, prog_13_method_31_code, 4, (Option.none : Option Jvm.ClassFile.FieldType), 4, 108, 0, 0, 12)
def xm112 : xK := (⟨"ZoneNetModel", "attempt", "(I)V"⟩, prog_13_method_47_code, 7, (Option.none : Option Jvm.ClassFile.FieldType), 5, 131, 0, 0, 12)
def xm113 : xK := (⟨"ZoneNetModel", "way", "(II)I"⟩, prog_13_method_22_code, 5, (Option.some Jvm.ClassFile.FieldType.int), 3, 84, 0, 0, 12)
def xm114 : xK := (⟨"ZoneNetModel", "isSession", "(I)Z"⟩, prog_13_method_41_code, 2, (Option.some Jvm.ClassFile.FieldType.boolean), 1, 40, 0, 0, 12)
def xm115 : xK := (⟨"ZoneNetModel", "signs", "(II)I"⟩, prog_13_method_5_code, 5, (Option.some Jvm.ClassFile.FieldType.int), 2, 60, 0, 0, 12)
def xm116 : xK := (⟨"ZoneNetModel", "has", "(II)Z"⟩, prog_13_method_15_code, 3, (Option.some Jvm.ClassFile.FieldType.boolean), 1, 40, 0, 0, 12)
def xm117 : xK := (⟨"ZoneNetModel", "place", "(C)I"⟩, prog_13_method_7_code, 3, (Option.some Jvm.ClassFile.FieldType.int), 1, 40, 0, 0, 12)
def xm118 : xK := (⟨"ZoneNetModel", "reach", "(III)I"⟩, prog_13_method_35_code, 6, (Option.some Jvm.ClassFile.FieldType.int), 4, 108, 0, 0, 12)
def xm119 : xK := (⟨"ZoneNetModel", "fits", "(III)Z"⟩, prog_13_method_12_code, 6, (Option.some Jvm.ClassFile.FieldType.boolean), 3, 85, 0, 0, 12)
def xm120 : xK := (⟨"ZoneNetModel", "isMask", "(II)Z"⟩, prog_13_method_9_code, 3, (Option.some Jvm.ClassFile.FieldType.boolean), 4, 106, 0, 0, 12)
def xm121 : xK := (⟨"ZoneNetModel", "take", "(IIII)V"⟩, prog_13_method_27_code, 8, (Option.none : Option Jvm.ClassFile.FieldType), 1, 40, 0, 0, 12)
def xm122 : xK := (⟨"ZoneNetModel", "packet", "(II)Z"⟩, prog_13_method_43_code, 4, (Option.some Jvm.ClassFile.FieldType.boolean), 4, 108, 0, 0, 12)
def xm123 : xK := (⟨"ZoneNetModel", "entry", "(III)I"⟩, prog_13_method_44_code, 5, (Option.some Jvm.ClassFile.FieldType.int), 1, 40, 0, 0, 12)
def xm124 : xK := (⟨"ZoneNetModel", "carry", "(II)I"⟩, prog_13_method_46_code, 5, (Option.some Jvm.ClassFile.FieldType.int), 1, 40, 0, 0, 12)
def xm125 : xK := (⟨"ZoneNetModel", "first", "(I)I"⟩, prog_13_method_21_code, 3, (Option.some Jvm.ClassFile.FieldType.int), 2, 62, 0, 0, 12)
def xm126 : xK := (⟨"ZoneNetModel", "sign", "(C)Z"⟩, prog_13_method_3_code, 1, (Option.some Jvm.ClassFile.FieldType.boolean), 1, 40, 0, 0, 12)
def xm127 : xK := (⟨"ZoneNetModel", "sameName", "(II)Z"⟩, prog_13_method_13_code, 5, (Option.some Jvm.ClassFile.FieldType.boolean), 2, 60, 0, 0, 12)
def xm128 : xK := (⟨"ZoneNetModel", "stands", "(IIII)Z"⟩, prog_13_method_11_code, 6, (Option.some Jvm.ClassFile.FieldType.boolean), 2, 60, 0, 0, 12)
def xm129 : xK := (⟨"ZoneNetModel", "tilde", "(II)I"⟩, prog_13_method_8_code, 4, (Option.some Jvm.ClassFile.FieldType.int), 1, 40, 0, 0, 12)
def xm130 : xK := (⟨"ZoneNetModel", "small", "(C)C"⟩, prog_13_method_4_code, 1, (Option.some Jvm.ClassFile.FieldType.char), 1, 40, 0, 0, 12)
def xm131 : xK := (⟨"java/lang/AbstractStringBuilder", "<init>", "(I)V"⟩, prog_14_method_2_code, 2, (Option.none : Option Jvm.ClassFile.FieldType), 1, 40, 1, 16, 15)
def xm132 : xK := (⟨"java/lang/AbstractStringBuilder", "length", "()I"⟩, prog_14_method_6_code, 1, (Option.some Jvm.ClassFile.FieldType.int), 1, 40, 0, 0, 15)
def xm133 : xK := (⟨"java/lang/AbstractStringBuilder", "append", "(C)Ljava/lang/AbstractStringBuilder;"⟩, prog_14_method_31_code, 2, (Option.some (Jvm.ClassFile.FieldType.object "java/lang/AbstractStringBuilder")), 4, 110, 1, 34, 15)
def xm134 : xK := (⟨"java/lang/AbstractStringBuilder", "ensureCapacityInternal", "(I)V"⟩, prog_14_method_9_code, 3, (Option.none : Option Jvm.ClassFile.FieldType), 3, 88, 1, 34, 15)
def xm135 : xK := (⟨"java/lang/AbstractStringBuilder", "isLatin1", "()Z"⟩, prog_14_method_68_code, 1, (Option.some Jvm.ClassFile.FieldType.boolean), 1, 40, 0, 0, 15)
def xm136 : xK := (⟨"java/lang/AbstractStringBuilder", "setLength", "(I)V"⟩, prog_14_method_13_code, 2, (Option.none : Option Jvm.ClassFile.FieldType), 4, 110, 1, 34, 15)
def xm137 : xK := (⟨"java/lang/AbstractStringBuilder", "newCapacity", "(I)I"⟩, prog_14_method_10_code, 6, (Option.some Jvm.ClassFile.FieldType.int), 2, 63, 0, 0, 15)
def xm138 : xK := (⟨"java/lang/AbstractStringBuilder", "getValue", "()[B"⟩, prog_14_method_64_code, 1, (Option.some (Jvm.ClassFile.FieldType.array Jvm.ClassFile.FieldType.byte)), 1, 40, 0, 0, 15)
def xm139 : xK := (⟨"java/lang/Integer", "bitCount", "(I)I"⟩, prog_17_method_49_code, 1, (Option.some Jvm.ClassFile.FieldType.int), 1, 40, 0, 0, 16)
def xm140 : xK := (⟨"java/lang/Math", "min", "(II)I"⟩, prog_18_method_69_code, 2, (Option.some Jvm.ClassFile.FieldType.int), 1, 40, 0, 0, 17)
def xm141 : xK := (⟨"java/lang/Math", "max", "(II)I"⟩, prog_18_method_65_code, 2, (Option.some Jvm.ClassFile.FieldType.int), 1, 40, 0, 0, 17)
def xm142 : xK := (⟨"java/lang/String", "isEmpty", "()Z"⟩, prog_19_method_55_code, 1, (Option.some Jvm.ClassFile.FieldType.boolean), 1, 40, 0, 0, 4)
def xm143 : xK := (⟨"java/lang/String", "indexOf", "(I)I"⟩, prog_19_method_79_code, 2, (Option.some Jvm.ClassFile.FieldType.int), 4, 110, 0, 0, 4)
def xm144 : xK := (⟨"java/lang/String", "substring", "(II)Ljava/lang/String;"⟩, prog_19_method_92_code, 5, (Option.some (Jvm.ClassFile.FieldType.object "java/lang/String")), 5, 129, 2, 38, 4)
def xm145 : xK := (⟨"java/lang/String", "substring", "(I)Ljava/lang/String;"⟩, prog_19_method_91_code, 2, (Option.some (Jvm.ClassFile.FieldType.object "java/lang/String")), 6, 153, 2, 38, 4)
def xm146 : xK := (⟨"java/lang/String", "equals", "(Ljava/lang/Object;)Z"⟩, prog_19_method_66_code, 3, (Option.some Jvm.ClassFile.FieldType.boolean), 2, 62, 0, 0, 4)
def xm147 : xK := (⟨"java/lang/String", "<init>", "(Ljava/lang/StringBuilder;)V"⟩, prog_19_method_53_code, 2, (Option.none : Option Jvm.ClassFile.FieldType), 5, 131, 1, 34, 4)
def xm148 : xK := (⟨"java/lang/String", "length", "()I"⟩, prog_19_method_54_code, 1, (Option.some Jvm.ClassFile.FieldType.int), 2, 60, 0, 0, 4)
def xm149 : xK := (⟨"java/lang/String", "charAt", "(I)C"⟩, prog_19_method_56_code, 2, (Option.some Jvm.ClassFile.FieldType.char), 4, 104, 0, 0, 4)
def xm150 : xK := (⟨"java/lang/String", "indexOf", "(II)I"⟩, prog_19_method_80_code, 3, (Option.some Jvm.ClassFile.FieldType.int), 3, 88, 0, 0, 4)
def xm151 : xK := (⟨"java/lang/String", "checkBoundsBeginEnd", "(III)V"⟩, prog_19_method_158_code, 3, (Option.none : Option Jvm.ClassFile.FieldType), 2, 63, 0, 0, 4)
def xm152 : xK := (⟨"java/lang/String", "isLatin1", "()Z"⟩, prog_19_method_154_code, 1, (Option.some Jvm.ClassFile.FieldType.boolean), 1, 40, 0, 0, 4)
def xm153 : xK := (⟨"java/lang/String", "<init>", "(Ljava/lang/AbstractStringBuilder;Ljava/lang/Void;)V"⟩, prog_19_method_150_code, 5, (Option.none : Option Jvm.ClassFile.FieldType), 4, 107, 1, 34, 4)
def xm154 : xK := (⟨"java/lang/String", "coder", "()B"⟩, prog_19_method_152_code, 1, (Option.some Jvm.ClassFile.FieldType.byte), 1, 40, 0, 0, 4)
def xm155 : xK := (⟨"java/lang/String", "<init>", "([BB)V"⟩, prog_19_method_151_code, 3, (Option.none : Option Jvm.ClassFile.FieldType), 1, 40, 0, 0, 4)
def xm156 : xK := (⟨"java/lang/String", "checkIndex", "(II)V"⟩, prog_19_method_155_code, 2, (Option.none : Option Jvm.ClassFile.FieldType), 2, 62, 0, 0, 4)
def xm157 : xK := (⟨"java/lang/StringBuilder", "<init>", "()V"⟩, prog_20_method_1_code, 1, (Option.none : Option Jvm.ClassFile.FieldType), 2, 61, 1, 16, 1)
def xm158 : xK := (⟨"java/lang/StringBuilder", "length", "()I"⟩, prog_20_method_93_code, 1, (Option.some Jvm.ClassFile.FieldType.int), 2, 60, 0, 0, 1)
def xm159 : xK := (⟨"java/lang/StringBuilder", "append", "(C)Ljava/lang/StringBuilder;"⟩, prog_20_method_14_code, 2, (Option.some (Jvm.ClassFile.FieldType.object "java/lang/StringBuilder")), 5, 131, 1, 34, 1)
def xm160 : xK := (⟨"java/lang/StringBuilder", "toString", "()Ljava/lang/String;"⟩, prog_20_method_42_code, 1, (Option.some (Jvm.ClassFile.FieldType.object "java/lang/String")), 6, 152, 2, 38, 1)
def xm161 : xK := (⟨"java/lang/StringBuilder", "setLength", "(I)V"⟩, prog_20_method_89_code, 2, (Option.none : Option Jvm.ClassFile.FieldType), 5, 131, 1, 34, 1)
def xm162 : xK := (⟨"java/lang/StringLatin1", "canEncode", "(C)Z"⟩, prog_21_method_3_code, 1, (Option.some Jvm.ClassFile.FieldType.boolean), 1, 40, 0, 0, 18)
def xm163 : xK := (⟨"java/lang/StringLatin1", "newString", "([BII)Ljava/lang/String;"⟩, prog_21_method_47_code, 3, (Option.some (Jvm.ClassFile.FieldType.object "java/lang/String")), 4, 107, 2, 38, 18)
def xm164 : xK := (⟨"java/lang/StringLatin1", "equals", "([B[B)Z"⟩, prog_21_method_13_code, 3, (Option.some Jvm.ClassFile.FieldType.boolean), 1, 40, 0, 0, 18)
def xm165 : xK := (⟨"java/lang/StringLatin1", "charAt", "([BI)C"⟩, prog_21_method_2_code, 2, (Option.some Jvm.ClassFile.FieldType.char), 3, 83, 0, 0, 18)
def xm166 : xK := (⟨"java/lang/StringLatin1", "indexOf", "([BIII)I"⟩, prog_21_method_22_code, 4, (Option.some Jvm.ClassFile.FieldType.int), 2, 65, 0, 0, 18)
def xm167 : xK := (⟨"java/lang/StringLatin1", "canEncode", "(I)Z"⟩, prog_21_method_4_code, 1, (Option.some Jvm.ClassFile.FieldType.boolean), 1, 40, 0, 0, 18)
def xm168 : xK := (⟨"java/lang/StringLatin1", "indexOfChar", "([BIII)I"⟩, prog_21_method_23_code, 6, (Option.some Jvm.ClassFile.FieldType.int), 1, 40, 0, 0, 18)
def xm169 : xK := (⟨"java/util/Arrays", "copyOf", "([BI)[B"⟩, prog_24_method_121_code, 3, (Option.some (Jvm.ClassFile.FieldType.array Jvm.ClassFile.FieldType.byte)), 1, 40, 1, 34, 19)
def xm170 : xK := (⟨"java/util/Arrays", "copyOfRange", "([BII)[B"⟩, prog_24_method_132_code, 3, (Option.some (Jvm.ClassFile.FieldType.array Jvm.ClassFile.FieldType.byte)), 3, 85, 1, 34, 19)
def xm171 : xK := (⟨"java/util/Arrays", "copyOfRangeByte", "([BII)[B"⟩, prog_24_method_133_code, 5, (Option.some (Jvm.ClassFile.FieldType.array Jvm.ClassFile.FieldType.byte)), 2, 61, 1, 34, 19)
def xm172 : xK := (⟨"java/util/Arrays", "checkLength", "(II)V"⟩, prog_24_method_131_code, 2, (Option.none : Option Jvm.ClassFile.FieldType), 1, 40, 0, 0, 19)
def xm173 : xK := (⟨"jdk/internal/util/ArraysSupport", "newLength", "(III)I"⟩, prog_25_method_27_code, 4, (Option.some Jvm.ClassFile.FieldType.int), 1, 40, 0, 0, 20)
def xm174 : xK := (⟨"jdk/internal/util/Preconditions", "checkFromToIndex", "(IIILjava/util/function/BiFunction;)I"⟩, prog_26_method_12_code, 4, (Option.some Jvm.ClassFile.FieldType.int), 1, 40, 0, 0, 21)
def xm175 : xK := (⟨"jdk/internal/util/Preconditions", "checkIndex", "(IILjava/util/function/BiFunction;)I"⟩, prog_26_method_11_code, 3, (Option.some Jvm.ClassFile.FieldType.int), 1, 40, 0, 0, 21)
def xmL : List xK := [xm0, xm1, xm2, xm3, xm4, xm5, xm6, xm7, xm8, xm9, xm10, xm11, xm12, xm13, xm14, xm15, xm16, xm17, xm18, xm19, xm20, xm21, xm22, xm23, xm24, xm25, xm26, xm27, xm28, xm29, xm30, xm31, xm32, xm33, xm34, xm35, xm36, xm37, xm38, xm39, xm40, xm41, xm42, xm43, xm44, xm45, xm46, xm47, xm48, xm49, xm50, xm51, xm52, xm53, xm54, xm55, xm56, xm57, xm58, xm59, xm60, xm61, xm62, xm63, xm64, xm65, xm66, xm67, xm68, xm69, xm70, xm71, xm72, xm73, xm74, xm75, xm76, xm77, xm78, xm79, xm80, xm81, xm82, xm83, xm84, xm85, xm86, xm87, xm88, xm89, xm90, xm91, xm92, xm93, xm94, xm95, xm96, xm97, xm98, xm99, xm100, xm101, xm102, xm103, xm104, xm105, xm106, xm107, xm108, xm109, xm110, xm111, xm112, xm113, xm114, xm115, xm116, xm117, xm118, xm119, xm120, xm121, xm122, xm123, xm124, xm125, xm126, xm127, xm128, xm129, xm130, xm131, xm132, xm133, xm134, xm135, xm136, xm137, xm138, xm139, xm140, xm141, xm142, xm143, xm144, xm145, xm146, xm147, xm148, xm149, xm150, xm151, xm152, xm153, xm154, xm155, xm156, xm157, xm158, xm159, xm160, xm161, xm162, xm163, xm164, xm165, xm166, xm167, xm168, xm169, xm170, xm171, xm172, xm173, xm174, xm175]
def xm (i : Nat) : xK := xmL.getD i xm0
def xstr : List (String × Nat × String × Nat) := [("ZoneNet$Names", 43, ":@=~*", 0), ("java/lang/StringLatin1", 151, "", 1), ("ZoneNet$Pattern", 32, "*", 2), ("ZoneNet$Mesh", 83, "*", 2), ("ZoneNet$Names", 25, "=", 3)]
def xsta : List (String × String × String × Int32) := [("java/lang/String", "COMPACT_STRINGS", "Z", 1)]
theorem xcw0 : ∀ w ∈ u_ws "ZoneNet" xT0 15, w ∈ lw_tbl := by
  show ∀ w ∈ [u_lay "ZoneNet" xT0 0, u_lay "ZoneNet" xT0 1, u_lay "ZoneNet" xT0 2, u_lay "ZoneNet" xT0 3, u_lay "ZoneNet" xT0 4, u_lay "ZoneNet" xT0 5, u_lay "ZoneNet" xT0 6, u_lay "ZoneNet" xT0 7, u_lay "ZoneNet" xT0 8, u_lay "ZoneNet" xT0 9, u_lay "ZoneNet" xT0 10, u_lay "ZoneNet" xT0 11, u_lay "ZoneNet" xT0 12, u_lay "ZoneNet" xT0 13, u_lay "ZoneNet" xT0 14], w ∈ lw_tbl
  exact List.forall_mem_cons.mpr ⟨xin 127 (by decide +kernel), List.forall_mem_cons.mpr ⟨xin 129 (by decide +kernel), List.forall_mem_cons.mpr ⟨xin 131 (by decide +kernel), List.forall_mem_cons.mpr ⟨xin 133 (by decide +kernel), List.forall_mem_cons.mpr ⟨xin 135 (by decide +kernel), List.forall_mem_cons.mpr ⟨xin 137 (by decide +kernel), List.forall_mem_cons.mpr ⟨xin 139 (by decide +kernel), List.forall_mem_cons.mpr ⟨xin 141 (by decide +kernel), List.forall_mem_cons.mpr ⟨xin 143 (by decide +kernel), List.forall_mem_cons.mpr ⟨xin 145 (by decide +kernel), List.forall_mem_cons.mpr ⟨xin 147 (by decide +kernel), List.forall_mem_cons.mpr ⟨xin 149 (by decide +kernel), List.forall_mem_cons.mpr ⟨xin 151 (by decide +kernel), List.forall_mem_cons.mpr ⟨xin 153 (by decide +kernel), List.forall_mem_cons.mpr ⟨xin 155 (by decide +kernel), fun w h => absurd h List.not_mem_nil⟩⟩⟩⟩⟩⟩⟩⟩⟩⟩⟩⟩⟩⟩⟩
theorem xcw1 : ∀ w ∈ u_ws "java/lang/StringBuilder" xT1 4, w ∈ lw_tbl := by
  show ∀ w ∈ [u_lay "java/lang/StringBuilder" xT1 0, u_lay "java/lang/StringBuilder" xT1 1, u_lay "java/lang/StringBuilder" xT1 2, u_lay "java/lang/StringBuilder" xT1 3], w ∈ lw_tbl
  exact List.forall_mem_cons.mpr ⟨xin 56 (by decide +kernel), List.forall_mem_cons.mpr ⟨xin 58 (by decide +kernel), List.forall_mem_cons.mpr ⟨xin 60 (by decide +kernel), List.forall_mem_cons.mpr ⟨xin 62 (by decide +kernel), fun w h => absurd h List.not_mem_nil⟩⟩⟩⟩
theorem xcw2 : ∀ w ∈ u_ws "ZoneNet$Mesh" xT2 4, w ∈ lw_tbl := by
  show ∀ w ∈ [u_lay "ZoneNet$Mesh" xT2 0, u_lay "ZoneNet$Mesh" xT2 1, u_lay "ZoneNet$Mesh" xT2 2, u_lay "ZoneNet$Mesh" xT2 3], w ∈ lw_tbl
  exact List.forall_mem_cons.mpr ⟨xin 81 (by decide +kernel), List.forall_mem_cons.mpr ⟨xin 83 (by decide +kernel), List.forall_mem_cons.mpr ⟨xin 85 (by decide +kernel), List.forall_mem_cons.mpr ⟨xin 87 (by decide +kernel), fun w h => absurd h List.not_mem_nil⟩⟩⟩⟩
theorem xcw3 : ∀ w ∈ u_ws "ZoneNet$Line" xT3 3, w ∈ lw_tbl := by
  show ∀ w ∈ [u_lay "ZoneNet$Line" xT3 0, u_lay "ZoneNet$Line" xT3 1, u_lay "ZoneNet$Line" xT3 2], w ∈ lw_tbl
  exact List.forall_mem_cons.mpr ⟨xin 101 (by decide +kernel), List.forall_mem_cons.mpr ⟨xin 103 (by decide +kernel), List.forall_mem_cons.mpr ⟨xin 105 (by decide +kernel), fun w h => absurd h List.not_mem_nil⟩⟩⟩
theorem xcw4 : ∀ w ∈ u_ws "java/lang/String" xT4 2, w ∈ lw_tbl := by
  show ∀ w ∈ [u_lay "java/lang/String" xT4 0, u_lay "java/lang/String" xT4 1], w ∈ lw_tbl
  exact List.forall_mem_cons.mpr ⟨xin 318 (by decide +kernel), List.forall_mem_cons.mpr ⟨xin 320 (by decide +kernel), fun w h => absurd h List.not_mem_nil⟩⟩
theorem xcw5 : ∀ w ∈ u_ws "ZoneNet$Network" xT5 2, w ∈ lw_tbl := by
  show ∀ w ∈ [u_lay "ZoneNet$Network" xT5 0, u_lay "ZoneNet$Network" xT5 1], w ∈ lw_tbl
  exact List.forall_mem_cons.mpr ⟨xin 449 (by decide +kernel), List.forall_mem_cons.mpr ⟨xin 451 (by decide +kernel), fun w h => absurd h List.not_mem_nil⟩⟩
theorem xcw6 : ∀ w ∈ u_ws "ZoneNet$Router" xT6 6, w ∈ lw_tbl := by
  show ∀ w ∈ [u_lay "ZoneNet$Router" xT6 0, u_lay "ZoneNet$Router" xT6 1, u_lay "ZoneNet$Router" xT6 2, u_lay "ZoneNet$Router" xT6 3, u_lay "ZoneNet$Router" xT6 4, u_lay "ZoneNet$Router" xT6 5], w ∈ lw_tbl
  exact List.forall_mem_cons.mpr ⟨xin 524 (by decide +kernel), List.forall_mem_cons.mpr ⟨xin 526 (by decide +kernel), List.forall_mem_cons.mpr ⟨xin 528 (by decide +kernel), List.forall_mem_cons.mpr ⟨xin 530 (by decide +kernel), List.forall_mem_cons.mpr ⟨xin 532 (by decide +kernel), List.forall_mem_cons.mpr ⟨xin 534 (by decide +kernel), fun w h => absurd h List.not_mem_nil⟩⟩⟩⟩⟩⟩
theorem xcw7 : ∀ w ∈ u_ws "ZoneNet$Entry" xT7 7, w ∈ lw_tbl := by
  show ∀ w ∈ [u_lay "ZoneNet$Entry" xT7 0, u_lay "ZoneNet$Entry" xT7 1, u_lay "ZoneNet$Entry" xT7 2, u_lay "ZoneNet$Entry" xT7 3, u_lay "ZoneNet$Entry" xT7 4, u_lay "ZoneNet$Entry" xT7 5, u_lay "ZoneNet$Entry" xT7 6], w ∈ lw_tbl
  exact List.forall_mem_cons.mpr ⟨xin 497 (by decide +kernel), List.forall_mem_cons.mpr ⟨xin 499 (by decide +kernel), List.forall_mem_cons.mpr ⟨xin 501 (by decide +kernel), List.forall_mem_cons.mpr ⟨xin 503 (by decide +kernel), List.forall_mem_cons.mpr ⟨xin 505 (by decide +kernel), List.forall_mem_cons.mpr ⟨xin 507 (by decide +kernel), List.forall_mem_cons.mpr ⟨xin 509 (by decide +kernel), fun w h => absurd h List.not_mem_nil⟩⟩⟩⟩⟩⟩⟩
theorem xcw8 : ∀ w ∈ u_ws "ZoneNet$Pattern" xT8 3, w ∈ lw_tbl := by
  show ∀ w ∈ [u_lay "ZoneNet$Pattern" xT8 0, u_lay "ZoneNet$Pattern" xT8 1, u_lay "ZoneNet$Pattern" xT8 2], w ∈ lw_tbl
  exact List.forall_mem_cons.mpr ⟨xin 622 (by decide +kernel), List.forall_mem_cons.mpr ⟨xin 624 (by decide +kernel), List.forall_mem_cons.mpr ⟨xin 626 (by decide +kernel), fun w h => absurd h List.not_mem_nil⟩⟩⟩
theorem xcw9 : ∀ w ∈ u_ws "ZoneNet$Service" xT9 7, w ∈ lw_tbl := by
  show ∀ w ∈ [u_lay "ZoneNet$Service" xT9 0, u_lay "ZoneNet$Service" xT9 1, u_lay "ZoneNet$Service" xT9 2, u_lay "ZoneNet$Service" xT9 3, u_lay "ZoneNet$Service" xT9 4, u_lay "ZoneNet$Service" xT9 5, u_lay "ZoneNet$Service" xT9 6], w ∈ lw_tbl
  exact List.forall_mem_cons.mpr ⟨xin 715 (by decide +kernel), List.forall_mem_cons.mpr ⟨xin 717 (by decide +kernel), List.forall_mem_cons.mpr ⟨xin 719 (by decide +kernel), List.forall_mem_cons.mpr ⟨xin 721 (by decide +kernel), List.forall_mem_cons.mpr ⟨xin 723 (by decide +kernel), List.forall_mem_cons.mpr ⟨xin 725 (by decide +kernel), List.forall_mem_cons.mpr ⟨xin 727 (by decide +kernel), fun w h => absurd h List.not_mem_nil⟩⟩⟩⟩⟩⟩⟩
theorem xcw10 : ∀ w ∈ u_ws "ZoneNet$Listed" xT10 5, w ∈ lw_tbl := by
  show ∀ w ∈ [u_lay "ZoneNet$Listed" xT10 0, u_lay "ZoneNet$Listed" xT10 1, u_lay "ZoneNet$Listed" xT10 2, u_lay "ZoneNet$Listed" xT10 3, u_lay "ZoneNet$Listed" xT10 4], w ∈ lw_tbl
  exact List.forall_mem_cons.mpr ⟨xin 695 (by decide +kernel), List.forall_mem_cons.mpr ⟨xin 697 (by decide +kernel), List.forall_mem_cons.mpr ⟨xin 699 (by decide +kernel), List.forall_mem_cons.mpr ⟨xin 701 (by decide +kernel), List.forall_mem_cons.mpr ⟨xin 703 (by decide +kernel), fun w h => absurd h List.not_mem_nil⟩⟩⟩⟩⟩
theorem xcw11 : ∀ w ∈ u_ws "ZoneNet$Session" xT11 13, w ∈ lw_tbl := by
  show ∀ w ∈ [u_lay "ZoneNet$Session" xT11 0, u_lay "ZoneNet$Session" xT11 1, u_lay "ZoneNet$Session" xT11 2, u_lay "ZoneNet$Session" xT11 3, u_lay "ZoneNet$Session" xT11 4, u_lay "ZoneNet$Session" xT11 5, u_lay "ZoneNet$Session" xT11 6, u_lay "ZoneNet$Session" xT11 7, u_lay "ZoneNet$Session" xT11 8, u_lay "ZoneNet$Session" xT11 9, u_lay "ZoneNet$Session" xT11 10, u_lay "ZoneNet$Session" xT11 11, u_lay "ZoneNet$Session" xT11 12], w ∈ lw_tbl
  exact List.forall_mem_cons.mpr ⟨xin 880 (by decide +kernel), List.forall_mem_cons.mpr ⟨xin 882 (by decide +kernel), List.forall_mem_cons.mpr ⟨xin 884 (by decide +kernel), List.forall_mem_cons.mpr ⟨xin 886 (by decide +kernel), List.forall_mem_cons.mpr ⟨xin 888 (by decide +kernel), List.forall_mem_cons.mpr ⟨xin 890 (by decide +kernel), List.forall_mem_cons.mpr ⟨xin 892 (by decide +kernel), List.forall_mem_cons.mpr ⟨xin 894 (by decide +kernel), List.forall_mem_cons.mpr ⟨xin 896 (by decide +kernel), List.forall_mem_cons.mpr ⟨xin 898 (by decide +kernel), List.forall_mem_cons.mpr ⟨xin 900 (by decide +kernel), List.forall_mem_cons.mpr ⟨xin 902 (by decide +kernel), List.forall_mem_cons.mpr ⟨xin 904 (by decide +kernel), fun w h => absurd h List.not_mem_nil⟩⟩⟩⟩⟩⟩⟩⟩⟩⟩⟩⟩⟩
theorem xcw12 : ∀ w ∈ u_ws "ZoneNetModel" xT12 49, w ∈ lw_tbl := by
  show ∀ w ∈ [u_lay "ZoneNetModel" xT12 0, u_lay "ZoneNetModel" xT12 1, u_lay "ZoneNetModel" xT12 2, u_lay "ZoneNetModel" xT12 3, u_lay "ZoneNetModel" xT12 4, u_lay "ZoneNetModel" xT12 5, u_lay "ZoneNetModel" xT12 6, u_lay "ZoneNetModel" xT12 7, u_lay "ZoneNetModel" xT12 8, u_lay "ZoneNetModel" xT12 9, u_lay "ZoneNetModel" xT12 10, u_lay "ZoneNetModel" xT12 11, u_lay "ZoneNetModel" xT12 12, u_lay "ZoneNetModel" xT12 13, u_lay "ZoneNetModel" xT12 14, u_lay "ZoneNetModel" xT12 15, u_lay "ZoneNetModel" xT12 16, u_lay "ZoneNetModel" xT12 17, u_lay "ZoneNetModel" xT12 18, u_lay "ZoneNetModel" xT12 19, u_lay "ZoneNetModel" xT12 20, u_lay "ZoneNetModel" xT12 21, u_lay "ZoneNetModel" xT12 22, u_lay "ZoneNetModel" xT12 23, u_lay "ZoneNetModel" xT12 24, u_lay "ZoneNetModel" xT12 25, u_lay "ZoneNetModel" xT12 26, u_lay "ZoneNetModel" xT12 27, u_lay "ZoneNetModel" xT12 28, u_lay "ZoneNetModel" xT12 29, u_lay "ZoneNetModel" xT12 30, u_lay "ZoneNetModel" xT12 31, u_lay "ZoneNetModel" xT12 32, u_lay "ZoneNetModel" xT12 33, u_lay "ZoneNetModel" xT12 34, u_lay "ZoneNetModel" xT12 35, u_lay "ZoneNetModel" xT12 36, u_lay "ZoneNetModel" xT12 37, u_lay "ZoneNetModel" xT12 38, u_lay "ZoneNetModel" xT12 39, u_lay "ZoneNetModel" xT12 40, u_lay "ZoneNetModel" xT12 41, u_lay "ZoneNetModel" xT12 42, u_lay "ZoneNetModel" xT12 43, u_lay "ZoneNetModel" xT12 44, u_lay "ZoneNetModel" xT12 45, u_lay "ZoneNetModel" xT12 46, u_lay "ZoneNetModel" xT12 47, u_lay "ZoneNetModel" xT12 48], w ∈ lw_tbl
  exact List.forall_mem_cons.mpr ⟨xin 1009 (by decide +kernel), List.forall_mem_cons.mpr ⟨xin 1011 (by decide +kernel), List.forall_mem_cons.mpr ⟨xin 1013 (by decide +kernel), List.forall_mem_cons.mpr ⟨xin 1015 (by decide +kernel), List.forall_mem_cons.mpr ⟨xin 1017 (by decide +kernel), List.forall_mem_cons.mpr ⟨xin 1019 (by decide +kernel), List.forall_mem_cons.mpr ⟨xin 1021 (by decide +kernel), List.forall_mem_cons.mpr ⟨xin 1023 (by decide +kernel), List.forall_mem_cons.mpr ⟨xin 1025 (by decide +kernel), List.forall_mem_cons.mpr ⟨xin 1027 (by decide +kernel), List.forall_mem_cons.mpr ⟨xin 1029 (by decide +kernel), List.forall_mem_cons.mpr ⟨xin 1031 (by decide +kernel), List.forall_mem_cons.mpr ⟨xin 1033 (by decide +kernel), List.forall_mem_cons.mpr ⟨xin 1035 (by decide +kernel), List.forall_mem_cons.mpr ⟨xin 1037 (by decide +kernel), List.forall_mem_cons.mpr ⟨xin 1039 (by decide +kernel), List.forall_mem_cons.mpr ⟨xin 1041 (by decide +kernel), List.forall_mem_cons.mpr ⟨xin 1043 (by decide +kernel), List.forall_mem_cons.mpr ⟨xin 1045 (by decide +kernel), List.forall_mem_cons.mpr ⟨xin 1047 (by decide +kernel), List.forall_mem_cons.mpr ⟨xin 1049 (by decide +kernel), List.forall_mem_cons.mpr ⟨xin 1051 (by decide +kernel), List.forall_mem_cons.mpr ⟨xin 1053 (by decide +kernel), List.forall_mem_cons.mpr ⟨xin 1055 (by decide +kernel), List.forall_mem_cons.mpr ⟨xin 1057 (by decide +kernel), List.forall_mem_cons.mpr ⟨xin 1059 (by decide +kernel), List.forall_mem_cons.mpr ⟨xin 1061 (by decide +kernel), List.forall_mem_cons.mpr ⟨xin 1063 (by decide +kernel), List.forall_mem_cons.mpr ⟨xin 1065 (by decide +kernel), List.forall_mem_cons.mpr ⟨xin 1067 (by decide +kernel), List.forall_mem_cons.mpr ⟨xin 1069 (by decide +kernel), List.forall_mem_cons.mpr ⟨xin 1071 (by decide +kernel), List.forall_mem_cons.mpr ⟨xin 1073 (by decide +kernel), List.forall_mem_cons.mpr ⟨xin 1075 (by decide +kernel), List.forall_mem_cons.mpr ⟨xin 1077 (by decide +kernel), List.forall_mem_cons.mpr ⟨xin 1079 (by decide +kernel), List.forall_mem_cons.mpr ⟨xin 1081 (by decide +kernel), List.forall_mem_cons.mpr ⟨xin 1083 (by decide +kernel), List.forall_mem_cons.mpr ⟨xin 1085 (by decide +kernel), List.forall_mem_cons.mpr ⟨xin 1087 (by decide +kernel), List.forall_mem_cons.mpr ⟨xin 1089 (by decide +kernel), List.forall_mem_cons.mpr ⟨xin 1091 (by decide +kernel), List.forall_mem_cons.mpr ⟨xin 1093 (by decide +kernel), List.forall_mem_cons.mpr ⟨xin 1095 (by decide +kernel), List.forall_mem_cons.mpr ⟨xin 1097 (by decide +kernel), List.forall_mem_cons.mpr ⟨xin 1099 (by decide +kernel), List.forall_mem_cons.mpr ⟨xin 1101 (by decide +kernel), List.forall_mem_cons.mpr ⟨xin 1103 (by decide +kernel), List.forall_mem_cons.mpr ⟨xin 1105 (by decide +kernel), fun w h => absurd h List.not_mem_nil⟩⟩⟩⟩⟩⟩⟩⟩⟩⟩⟩⟩⟩⟩⟩⟩⟩⟩⟩⟩⟩⟩⟩⟩⟩⟩⟩⟩⟩⟩⟩⟩⟩⟩⟩⟩⟩⟩⟩⟩⟩⟩⟩⟩⟩⟩⟩⟩⟩
theorem xcl_ws {ci : Nat} {cd : vw_C} (h : xcl[ci]? = some cd) : ∀ w ∈ u_ws cd.1 cd.2.1 cd.2.2, w ∈ lw_tbl := by
  have h2 : ∀ q ∈ xcl, ∀ w ∈ u_ws q.1 q.2.1 q.2.2, w ∈ lw_tbl := List.forall_mem_cons.mpr ⟨xcw0, List.forall_mem_cons.mpr ⟨xcw1, List.forall_mem_cons.mpr ⟨xcw2, List.forall_mem_cons.mpr ⟨xcw3, List.forall_mem_cons.mpr ⟨xcw4, List.forall_mem_cons.mpr ⟨xcw5, List.forall_mem_cons.mpr ⟨xcw6, List.forall_mem_cons.mpr ⟨xcw7, List.forall_mem_cons.mpr ⟨xcw8, List.forall_mem_cons.mpr ⟨xcw9, List.forall_mem_cons.mpr ⟨xcw10, List.forall_mem_cons.mpr ⟨xcw11, List.forall_mem_cons.mpr ⟨xcw12, fun w h => absurd h List.not_mem_nil⟩⟩⟩⟩⟩⟩⟩⟩⟩⟩⟩⟩⟩
  exact h2 cd (List.mem_of_getElem? h)
theorem xcl_tyB : ∀ q ∈ xcl, ∀ k, k < q.2.2 → (parseFieldDescriptor (q.2.1 k).2.2.1).isSome = true := by decide +kernel
theorem xcl_ty {ci k : Nat} {cd : vw_C} (h : xcl[ci]? = some cd) (hk : k < cd.2.2) : ∃ ty, parseFieldDescriptor (cd.2.1 k).2.2.1 = some ty := Option.isSome_iff_exists.mp (xcl_tyB cd (List.mem_of_getElem? h) k hk)
theorem xcl_nmB : ∀ q ∈ xcl, ∀ x, x < q.2.2 → ∀ y, y < q.2.2 → x ≠ y → (q.2.1 x).2.1 ≠ (q.2.1 y).2.1 := by decide +kernel
theorem xcl_nm {ci x y : Nat} {cd : vw_C} (h : xcl[ci]? = some cd) (hx : x < cd.2.2) (hy : y < cd.2.2) (hne : x ≠ y) : (cd.2.1 x).2.1 ≠ (cd.2.1 y).2.1 := xcl_nmB cd (List.mem_of_getElem? h) x hx y hy hne
/-- a new object's fields -/
def xdef (ci : Nat) : List Value := match xcl[ci]? with
  | some cd => (List.range cd.2.2).map (fun k => (parseFieldDescriptor (cd.2.1 k).2.2.1).elim .null defaultValue)
  | none => []
theorem xdef_len {ci : Nat} {cd : vw_C} (h : xcl[ci]? = some cd) : (xdef ci).length = cd.2.2 := by
  unfold xdef
  rw [h]
  simp
theorem xdef_at {ci k : Nat} {cd : vw_C} {v : Value} (h : xcl[ci]? = some cd) (hv : (xdef ci)[k]? = some v) : ∃ ty, k < cd.2.2 ∧ parseFieldDescriptor (cd.2.1 k).2.2.1 = some ty ∧ v = defaultValue ty := by
  have hk : k < cd.2.2 := by
    have := (List.getElem?_eq_some_iff.mp hv).1
    rw [xdef_len h] at this
    exact this
  obtain ⟨ty, hty⟩ := xcl_ty h hk
  refine ⟨ty, hk, hty, ?_⟩
  unfold xdef at hv
  rw [h] at hv
  simp [List.getElem?_map, List.getElem?_range hk, hty] at hv
  exact hv.symm
