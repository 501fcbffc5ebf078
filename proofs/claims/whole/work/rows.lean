section
-- ===== PART A: goes FIRST, ahead of the names: the tables' words, and 'selects' of the private methods out of them =====
/-- a private method of a class that the tables say can be made, by its rows of tables_1 -/
def lw_okq (q : MethodName × Nat) : Prop := (q.1.cls ≠ "java/lang/invoke/MethodHandle" ∧ q.1.cls ≠ "java/lang/invoke/VarHandle") ∧ Cond.instantiable q.1.cls q.2 ∈ tables_1 ∧ Cond.privateMethod q.1 ∈ tables_1 ∧ Cond.instanceMethod q.1 ∈ tables_1
theorem lw_p0 : lw_okq (⟨"ZoneNet", "takeText", "()Ljava/lang/String;"⟩, 15) := ⟨⟨by decide +kernel, by decide +kernel⟩, List.mem_of_getElem? (i := 26) (by decide +kernel), List.mem_of_getElem? (i := 270) (by decide +kernel), List.mem_of_getElem? (i := 271) (by decide +kernel)⟩
theorem lw_p1 : lw_okq (⟨"ZoneNet", "look", "(ILZoneNet$Pattern;[I)I"⟩, 15) := ⟨⟨by decide +kernel, by decide +kernel⟩, List.mem_of_getElem? (i := 26) (by decide +kernel), List.mem_of_getElem? (i := 634) (by decide +kernel), List.mem_of_getElem? (i := 635) (by decide +kernel)⟩
theorem lw_p2 : lw_okq (⟨"ZoneNet$Mesh", "firstRouter", "(I)I"⟩, 4) := ⟨⟨by decide +kernel, by decide +kernel⟩, List.mem_of_getElem? (i := 67) (by decide +kernel), List.mem_of_getElem? (i := 651) (by decide +kernel), List.mem_of_getElem? (i := 652) (by decide +kernel)⟩
theorem lw_p3 : lw_okq (⟨"ZoneNet", "hasService", "(I)Z"⟩, 15) := ⟨⟨by decide +kernel, by decide +kernel⟩, List.mem_of_getElem? (i := 26) (by decide +kernel), List.mem_of_getElem? (i := 735) (by decide +kernel), List.mem_of_getElem? (i := 736) (by decide +kernel)⟩
theorem lw_p4 : lw_okq (⟨"ZoneNet", "releaseOld", "()V"⟩, 15) := ⟨⟨by decide +kernel, by decide +kernel⟩, List.mem_of_getElem? (i := 26) (by decide +kernel), List.mem_of_getElem? (i := 792) (by decide +kernel), List.mem_of_getElem? (i := 793) (by decide +kernel)⟩
theorem lw_p5 : lw_okq (⟨"ZoneNet", "countSilence", "()V"⟩, 15) := ⟨⟨by decide +kernel, by decide +kernel⟩, List.mem_of_getElem? (i := 26) (by decide +kernel), List.mem_of_getElem? (i := 800) (by decide +kernel), List.mem_of_getElem? (i := 801) (by decide +kernel)⟩
theorem lw_p6 : lw_okq (⟨"ZoneNet", "tryAgain", "()V"⟩, 15) := ⟨⟨by decide +kernel, by decide +kernel⟩, List.mem_of_getElem? (i := 26) (by decide +kernel), List.mem_of_getElem? (i := 809) (by decide +kernel), List.mem_of_getElem? (i := 810) (by decide +kernel)⟩
theorem lw_p7 : lw_okq (⟨"ZoneNet", "tryOnce", "(LZoneNet$Session;)V"⟩, 15) := ⟨⟨by decide +kernel, by decide +kernel⟩, List.mem_of_getElem? (i := 26) (by decide +kernel), List.mem_of_getElem? (i := 813) (by decide +kernel), List.mem_of_getElem? (i := 814) (by decide +kernel)⟩
theorem lw_p8 : lw_okq (⟨"ZoneNet$Service", "carryOut", "(II)I"⟩, 7) := ⟨⟨by decide +kernel, by decide +kernel⟩, List.mem_of_getElem? (i := 675) (by decide +kernel), List.mem_of_getElem? (i := 826) (by decide +kernel), List.mem_of_getElem? (i := 827) (by decide +kernel)⟩
theorem lw_p9 : lw_okq (⟨"ZoneNet", "sendMissingParts", "(LZoneNet$Session;)V"⟩, 15) := ⟨⟨by decide +kernel, by decide +kernel⟩, List.mem_of_getElem? (i := 26) (by decide +kernel), List.mem_of_getElem? (i := 830) (by decide +kernel), List.mem_of_getElem? (i := 831) (by decide +kernel)⟩
theorem lw_p10 : lw_okq (⟨"ZoneNet", "hasSession", "(I)Z"⟩, 15) := ⟨⟨by decide +kernel, by decide +kernel⟩, List.mem_of_getElem? (i := 26) (by decide +kernel), List.mem_of_getElem? (i := 912) (by decide +kernel), List.mem_of_getElem? (i := 913) (by decide +kernel)⟩
theorem lw_p11 : lw_okq (⟨"ZoneNet$Service", "countListed", "()I"⟩, 7) := ⟨⟨by decide +kernel, by decide +kernel⟩, List.mem_of_getElem? (i := 675) (by decide +kernel), List.mem_of_getElem? (i := 940) (by decide +kernel), List.mem_of_getElem? (i := 941) (by decide +kernel)⟩
theorem lw_p12 : lw_okq (⟨"ZoneNetModel", "isName", "(II)Z"⟩, 49) := ⟨⟨by decide +kernel, by decide +kernel⟩, List.mem_of_getElem? (i := 955) (by decide +kernel), List.mem_of_getElem? (i := 1118) (by decide +kernel), List.mem_of_getElem? (i := 1119) (by decide +kernel)⟩
theorem lw_p13 : lw_okq (⟨"ZoneNetModel", "signs", "(II)I"⟩, 49) := ⟨⟨by decide +kernel, by decide +kernel⟩, List.mem_of_getElem? (i := 955) (by decide +kernel), List.mem_of_getElem? (i := 1122) (by decide +kernel), List.mem_of_getElem? (i := 1123) (by decide +kernel)⟩
theorem lw_p14 : lw_okq (⟨"ZoneNetModel", "keep", "(III)V"⟩, 49) := ⟨⟨by decide +kernel, by decide +kernel⟩, List.mem_of_getElem? (i := 955) (by decide +kernel), List.mem_of_getElem? (i := 1129) (by decide +kernel), List.mem_of_getElem? (i := 1130) (by decide +kernel)⟩
theorem lw_p15 : lw_okq (⟨"ZoneNetModel", "fresh", "(I)V"⟩, 49) := ⟨⟨by decide +kernel, by decide +kernel⟩, List.mem_of_getElem? (i := 955) (by decide +kernel), List.mem_of_getElem? (i := 1137) (by decide +kernel), List.mem_of_getElem? (i := 1138) (by decide +kernel)⟩
def lw_privs_1 : List (MethodName × Nat) := [(⟨"ZoneNet", "takeText", "()Ljava/lang/String;"⟩, 15), (⟨"ZoneNet", "look", "(ILZoneNet$Pattern;[I)I"⟩, 15), (⟨"ZoneNet$Mesh", "firstRouter", "(I)I"⟩, 4), (⟨"ZoneNet", "hasService", "(I)Z"⟩, 15), (⟨"ZoneNet", "releaseOld", "()V"⟩, 15), (⟨"ZoneNet", "countSilence", "()V"⟩, 15), (⟨"ZoneNet", "tryAgain", "()V"⟩, 15), (⟨"ZoneNet", "tryOnce", "(LZoneNet$Session;)V"⟩, 15), (⟨"ZoneNet$Service", "carryOut", "(II)I"⟩, 7), (⟨"ZoneNet", "sendMissingParts", "(LZoneNet$Session;)V"⟩, 15), (⟨"ZoneNet", "hasSession", "(I)Z"⟩, 15), (⟨"ZoneNet$Service", "countListed", "()I"⟩, 7), (⟨"ZoneNetModel", "isName", "(II)Z"⟩, 49), (⟨"ZoneNetModel", "signs", "(II)I"⟩, 49), (⟨"ZoneNetModel", "keep", "(III)V"⟩, 49), (⟨"ZoneNetModel", "fresh", "(I)V"⟩, 49)]
theorem lw_r1 : ∀ q ∈ lw_privs_1, lw_okq q := List.forall_mem_cons.mpr ⟨lw_p0, List.forall_mem_cons.mpr ⟨lw_p1, List.forall_mem_cons.mpr ⟨lw_p2, List.forall_mem_cons.mpr ⟨lw_p3, List.forall_mem_cons.mpr ⟨lw_p4, List.forall_mem_cons.mpr ⟨lw_p5, List.forall_mem_cons.mpr ⟨lw_p6, List.forall_mem_cons.mpr ⟨lw_p7, List.forall_mem_cons.mpr ⟨lw_p8, List.forall_mem_cons.mpr ⟨lw_p9, List.forall_mem_cons.mpr ⟨lw_p10, List.forall_mem_cons.mpr ⟨lw_p11, List.forall_mem_cons.mpr ⟨lw_p12, List.forall_mem_cons.mpr ⟨lw_p13, List.forall_mem_cons.mpr ⟨lw_p14, List.forall_mem_cons.mpr ⟨lw_p15, fun _ h => absurd h List.not_mem_nil⟩⟩⟩⟩⟩⟩⟩⟩⟩⟩⟩⟩⟩⟩⟩⟩
theorem lw_p16 : lw_okq (⟨"ZoneNetModel", "has", "(II)Z"⟩, 49) := ⟨⟨by decide +kernel, by decide +kernel⟩, List.mem_of_getElem? (i := 955) (by decide +kernel), List.mem_of_getElem? (i := 1141) (by decide +kernel), List.mem_of_getElem? (i := 1142) (by decide +kernel)⟩
theorem lw_p17 : lw_okq (⟨"ZoneNetModel", "way", "(II)I"⟩, 49) := ⟨⟨by decide +kernel, by decide +kernel⟩, List.mem_of_getElem? (i := 955) (by decide +kernel), List.mem_of_getElem? (i := 1157) (by decide +kernel), List.mem_of_getElem? (i := 1158) (by decide +kernel)⟩
theorem lw_p18 : lw_okq (⟨"ZoneNetModel", "first", "(I)I"⟩, 49) := ⟨⟨by decide +kernel, by decide +kernel⟩, List.mem_of_getElem? (i := 955) (by decide +kernel), List.mem_of_getElem? (i := 1161) (by decide +kernel), List.mem_of_getElem? (i := 1162) (by decide +kernel)⟩
theorem lw_p19 : lw_okq (⟨"ZoneNetModel", "copy", "()I"⟩, 49) := ⟨⟨by decide +kernel, by decide +kernel⟩, List.mem_of_getElem? (i := 955) (by decide +kernel), List.mem_of_getElem? (i := 1173) (by decide +kernel), List.mem_of_getElem? (i := 1174) (by decide +kernel)⟩
theorem lw_p20 : lw_okq (⟨"ZoneNetModel", "age", "()V"⟩, 49) := ⟨⟨by decide +kernel, by decide +kernel⟩, List.mem_of_getElem? (i := 955) (by decide +kernel), List.mem_of_getElem? (i := 1177) (by decide +kernel), List.mem_of_getElem? (i := 1178) (by decide +kernel)⟩
theorem lw_p21 : lw_okq (⟨"ZoneNetModel", "takeAll", "(I)V"⟩, 49) := ⟨⟨by decide +kernel, by decide +kernel⟩, List.mem_of_getElem? (i := 955) (by decide +kernel), List.mem_of_getElem? (i := 1181) (by decide +kernel), List.mem_of_getElem? (i := 1182) (by decide +kernel)⟩
theorem lw_p22 : lw_okq (⟨"ZoneNetModel", "take", "(IIII)V"⟩, 49) := ⟨⟨by decide +kernel, by decide +kernel⟩, List.mem_of_getElem? (i := 955) (by decide +kernel), List.mem_of_getElem? (i := 1185) (by decide +kernel), List.mem_of_getElem? (i := 1186) (by decide +kernel)⟩
theorem lw_p23 : lw_okq (⟨"ZoneNetModel", "zones", "()V"⟩, 49) := ⟨⟨by decide +kernel, by decide +kernel⟩, List.mem_of_getElem? (i := 955) (by decide +kernel), List.mem_of_getElem? (i := 1189) (by decide +kernel), List.mem_of_getElem? (i := 1190) (by decide +kernel)⟩
theorem lw_p24 : lw_okq (⟨"ZoneNetModel", "strike", "(II)V"⟩, 49) := ⟨⟨by decide +kernel, by decide +kernel⟩, List.mem_of_getElem? (i := 955) (by decide +kernel), List.mem_of_getElem? (i := 1193) (by decide +kernel), List.mem_of_getElem? (i := 1194) (by decide +kernel)⟩
theorem lw_p25 : lw_okq (⟨"ZoneNetModel", "silent", "(I)V"⟩, 49) := ⟨⟨by decide +kernel, by decide +kernel⟩, List.mem_of_getElem? (i := 955) (by decide +kernel), List.mem_of_getElem? (i := 1197) (by decide +kernel), List.mem_of_getElem? (i := 1198) (by decide +kernel)⟩
theorem lw_p26 : lw_okq (⟨"ZoneNetModel", "attempt", "(I)V"⟩, 49) := ⟨⟨by decide +kernel, by decide +kernel⟩, List.mem_of_getElem? (i := 955) (by decide +kernel), List.mem_of_getElem? (i := 1201) (by decide +kernel), List.mem_of_getElem? (i := 1202) (by decide +kernel)⟩
theorem lw_p27 : lw_okq (⟨"ZoneNetModel", "packet", "(II)Z"⟩, 49) := ⟨⟨by decide +kernel, by decide +kernel⟩, List.mem_of_getElem? (i := 955) (by decide +kernel), List.mem_of_getElem? (i := 1205) (by decide +kernel), List.mem_of_getElem? (i := 1206) (by decide +kernel)⟩
theorem lw_p28 : lw_okq (⟨"ZoneNetModel", "entry", "(III)I"⟩, 49) := ⟨⟨by decide +kernel, by decide +kernel⟩, List.mem_of_getElem? (i := 955) (by decide +kernel), List.mem_of_getElem? (i := 1209) (by decide +kernel), List.mem_of_getElem? (i := 1210) (by decide +kernel)⟩
theorem lw_p29 : lw_okq (⟨"ZoneNetModel", "carry", "(II)I"⟩, 49) := ⟨⟨by decide +kernel, by decide +kernel⟩, List.mem_of_getElem? (i := 955) (by decide +kernel), List.mem_of_getElem? (i := 1213) (by decide +kernel), List.mem_of_getElem? (i := 1214) (by decide +kernel)⟩
theorem lw_p30 : lw_okq (⟨"ZoneNetModel", "isNode", "(I)Z"⟩, 49) := ⟨⟨by decide +kernel, by decide +kernel⟩, List.mem_of_getElem? (i := 955) (by decide +kernel), List.mem_of_getElem? (i := 1221) (by decide +kernel), List.mem_of_getElem? (i := 1222) (by decide +kernel)⟩
theorem lw_p31 : lw_okq (⟨"ZoneNetModel", "make", "(I)I"⟩, 49) := ⟨⟨by decide +kernel, by decide +kernel⟩, List.mem_of_getElem? (i := 955) (by decide +kernel), List.mem_of_getElem? (i := 1225) (by decide +kernel), List.mem_of_getElem? (i := 1226) (by decide +kernel)⟩
def lw_privs_2 : List (MethodName × Nat) := [(⟨"ZoneNetModel", "has", "(II)Z"⟩, 49), (⟨"ZoneNetModel", "way", "(II)I"⟩, 49), (⟨"ZoneNetModel", "first", "(I)I"⟩, 49), (⟨"ZoneNetModel", "copy", "()I"⟩, 49), (⟨"ZoneNetModel", "age", "()V"⟩, 49), (⟨"ZoneNetModel", "takeAll", "(I)V"⟩, 49), (⟨"ZoneNetModel", "take", "(IIII)V"⟩, 49), (⟨"ZoneNetModel", "zones", "()V"⟩, 49), (⟨"ZoneNetModel", "strike", "(II)V"⟩, 49), (⟨"ZoneNetModel", "silent", "(I)V"⟩, 49), (⟨"ZoneNetModel", "attempt", "(I)V"⟩, 49), (⟨"ZoneNetModel", "packet", "(II)Z"⟩, 49), (⟨"ZoneNetModel", "entry", "(III)I"⟩, 49), (⟨"ZoneNetModel", "carry", "(II)I"⟩, 49), (⟨"ZoneNetModel", "isNode", "(I)Z"⟩, 49), (⟨"ZoneNetModel", "make", "(I)I"⟩, 49)]
theorem lw_r2 : ∀ q ∈ lw_privs_2, lw_okq q := List.forall_mem_cons.mpr ⟨lw_p16, List.forall_mem_cons.mpr ⟨lw_p17, List.forall_mem_cons.mpr ⟨lw_p18, List.forall_mem_cons.mpr ⟨lw_p19, List.forall_mem_cons.mpr ⟨lw_p20, List.forall_mem_cons.mpr ⟨lw_p21, List.forall_mem_cons.mpr ⟨lw_p22, List.forall_mem_cons.mpr ⟨lw_p23, List.forall_mem_cons.mpr ⟨lw_p24, List.forall_mem_cons.mpr ⟨lw_p25, List.forall_mem_cons.mpr ⟨lw_p26, List.forall_mem_cons.mpr ⟨lw_p27, List.forall_mem_cons.mpr ⟨lw_p28, List.forall_mem_cons.mpr ⟨lw_p29, List.forall_mem_cons.mpr ⟨lw_p30, List.forall_mem_cons.mpr ⟨lw_p31, fun _ h => absurd h List.not_mem_nil⟩⟩⟩⟩⟩⟩⟩⟩⟩⟩⟩⟩⟩⟩⟩⟩
theorem lw_p32 : lw_okq (⟨"ZoneNetModel", "place", "(C)I"⟩, 49) := ⟨⟨by decide +kernel, by decide +kernel⟩, List.mem_of_getElem? (i := 955) (by decide +kernel), List.mem_of_getElem? (i := 1229) (by decide +kernel), List.mem_of_getElem? (i := 1230) (by decide +kernel)⟩
theorem lw_p33 : lw_okq (⟨"ZoneNetModel", "reach", "(III)I"⟩, 49) := ⟨⟨by decide +kernel, by decide +kernel⟩, List.mem_of_getElem? (i := 955) (by decide +kernel), List.mem_of_getElem? (i := 1233) (by decide +kernel), List.mem_of_getElem? (i := 1234) (by decide +kernel)⟩
theorem lw_p34 : lw_okq (⟨"ZoneNetModel", "sameName", "(II)Z"⟩, 49) := ⟨⟨by decide +kernel, by decide +kernel⟩, List.mem_of_getElem? (i := 955) (by decide +kernel), List.mem_of_getElem? (i := 1237) (by decide +kernel), List.mem_of_getElem? (i := 1238) (by decide +kernel)⟩
theorem lw_p35 : lw_okq (⟨"ZoneNetModel", "stands", "(IIII)Z"⟩, 49) := ⟨⟨by decide +kernel, by decide +kernel⟩, List.mem_of_getElem? (i := 955) (by decide +kernel), List.mem_of_getElem? (i := 1244) (by decide +kernel), List.mem_of_getElem? (i := 1245) (by decide +kernel)⟩
theorem lw_p36 : lw_okq (⟨"ZoneNetModel", "fits", "(III)Z"⟩, 49) := ⟨⟨by decide +kernel, by decide +kernel⟩, List.mem_of_getElem? (i := 955) (by decide +kernel), List.mem_of_getElem? (i := 1248) (by decide +kernel), List.mem_of_getElem? (i := 1249) (by decide +kernel)⟩
theorem lw_p37 : lw_okq (⟨"ZoneNetModel", "tilde", "(II)I"⟩, 49) := ⟨⟨by decide +kernel, by decide +kernel⟩, List.mem_of_getElem? (i := 955) (by decide +kernel), List.mem_of_getElem? (i := 1252) (by decide +kernel), List.mem_of_getElem? (i := 1253) (by decide +kernel)⟩
theorem lw_p38 : lw_okq (⟨"ZoneNetModel", "search", "(I)I"⟩, 49) := ⟨⟨by decide +kernel, by decide +kernel⟩, List.mem_of_getElem? (i := 955) (by decide +kernel), List.mem_of_getElem? (i := 1264) (by decide +kernel), List.mem_of_getElem? (i := 1265) (by decide +kernel)⟩
theorem lw_p39 : lw_okq (⟨"ZoneNetModel", "isMask", "(II)Z"⟩, 49) := ⟨⟨by decide +kernel, by decide +kernel⟩, List.mem_of_getElem? (i := 955) (by decide +kernel), List.mem_of_getElem? (i := 1268) (by decide +kernel), List.mem_of_getElem? (i := 1269) (by decide +kernel)⟩
theorem lw_p40 : lw_okq (⟨"ZoneNetModel", "isSession", "(I)Z"⟩, 49) := ⟨⟨by decide +kernel, by decide +kernel⟩, List.mem_of_getElem? (i := 955) (by decide +kernel), List.mem_of_getElem? (i := 1288) (by decide +kernel), List.mem_of_getElem? (i := 1289) (by decide +kernel)⟩
def lw_privs_3 : List (MethodName × Nat) := [(⟨"ZoneNetModel", "place", "(C)I"⟩, 49), (⟨"ZoneNetModel", "reach", "(III)I"⟩, 49), (⟨"ZoneNetModel", "sameName", "(II)Z"⟩, 49), (⟨"ZoneNetModel", "stands", "(IIII)Z"⟩, 49), (⟨"ZoneNetModel", "fits", "(III)Z"⟩, 49), (⟨"ZoneNetModel", "tilde", "(II)I"⟩, 49), (⟨"ZoneNetModel", "search", "(I)I"⟩, 49), (⟨"ZoneNetModel", "isMask", "(II)Z"⟩, 49), (⟨"ZoneNetModel", "isSession", "(I)Z"⟩, 49)]
theorem lw_r3 : ∀ q ∈ lw_privs_3, lw_okq q := List.forall_mem_cons.mpr ⟨lw_p32, List.forall_mem_cons.mpr ⟨lw_p33, List.forall_mem_cons.mpr ⟨lw_p34, List.forall_mem_cons.mpr ⟨lw_p35, List.forall_mem_cons.mpr ⟨lw_p36, List.forall_mem_cons.mpr ⟨lw_p37, List.forall_mem_cons.mpr ⟨lw_p38, List.forall_mem_cons.mpr ⟨lw_p39, List.forall_mem_cons.mpr ⟨lw_p40, fun _ h => absurd h List.not_mem_nil⟩⟩⟩⟩⟩⟩⟩⟩⟩
def lw_privs : List (MethodName × Nat) := lw_privs_1 ++ (lw_privs_2 ++ (lw_privs_3))
def lw_tbl : List Cond := k2_sels lw_privs ++ tables_1
theorem lw_privs_ok : ∀ q ∈ lw_privs, lw_okq q := by
  show ∀ q ∈ lw_privs_1 ++ (lw_privs_2 ++ (lw_privs_3)), lw_okq q
  exact List.forall_mem_append.mpr ⟨lw_r1, List.forall_mem_append.mpr ⟨lw_r2, lw_r3⟩⟩
end
section
/-! tables of the program: classes, fields, methods, links (written by program out of the Statement's words) -/
theorem xin {w : Cond} (i : Nat) (h : tables_1[i]? = some w) : w ∈ lw_tbl := List.mem_append_right _ (List.mem_of_getElem? h)
def xownL : List String := ["ZoneNet", "java/lang/StringBuilder", "ZoneNet$Mesh", "ZoneNet$Line", "java/lang/String", "ZoneNet$Network", "ZoneNet$Router", "ZoneNet$Entry", "ZoneNet$Pattern", "ZoneNet$Service", "ZoneNet$Listed", "ZoneNet$Session", "ZoneNetModel", "ZoneNetLaw", "ZoneNet$Names", "java/lang/AbstractStringBuilder", "java/lang/Integer", "java/lang/Math", "java/lang/StringLatin1", "java/util/Arrays", "jdk/internal/util/ArraysSupport", "jdk/internal/util/Preconditions"]
def xown (n : Nat) : String := xownL.getD n ""
def xT0 : u_T := fun k => match k with
  | 0 => ("ZoneNet", "interval", "I", true)
  | 1 => ("ZoneNet", "tries", "I", true)
  | 2 => ("ZoneNet", "release", "I", true)
  | 3 => ("ZoneNet", "text", "Ljava/lang/StringBuilder;", true)
  | 4 => ("ZoneNet", "mesh", "LZoneNet$Mesh;", true)
  | 5 => ("ZoneNet", "line", "LZoneNet$Line;", true)
  | 6 => ("ZoneNet", "services", "[LZoneNet$Service;", true)
  | 7 => ("ZoneNet", "serviceCount", "I", false)
  | 8 => ("ZoneNet", "sessions", "[LZoneNet$Session;", true)
  | 9 => ("ZoneNet", "sessionCount", "I", false)
  | 10 => ("ZoneNet", "foundServices", "[I", true)
  | 11 => ("ZoneNet", "foundCount", "I", false)
  | 12 => ("ZoneNet", "hopsToNetwork", "[I", true)
  | 13 => ("ZoneNet", "namesakes", "[I", true)
  | _ => ("ZoneNet", "now", "I", false)
def xT1 : u_T := fun k => match k with
  | 0 => ("java/lang/AbstractStringBuilder", "value", "[B", false)
  | 1 => ("java/lang/AbstractStringBuilder", "coder", "B", false)
  | 2 => ("java/lang/AbstractStringBuilder", "maybeLatin1", "Z", false)
  | _ => ("java/lang/AbstractStringBuilder", "count", "I", false)
def xT2 : u_T := fun k => match k with
  | 0 => ("ZoneNet$Mesh", "networks", "[LZoneNet$Network;", true)
  | 1 => ("ZoneNet$Mesh", "networkCount", "I", false)
  | 2 => ("ZoneNet$Mesh", "routers", "[LZoneNet$Router;", true)
  | _ => ("ZoneNet$Mesh", "routerCount", "I", false)
def xT3 : u_T := fun k => match k with
  | 0 => ("ZoneNet$Line", "mesh", "LZoneNet$Mesh;", true)
  | 1 => ("ZoneNet$Line", "faultBits", "I", false)
  | _ => ("ZoneNet$Line", "sent", "I", false)
def xT4 : u_T := fun k => match k with
  | 0 => ("java/lang/String", "value", "[B", true)
  | _ => ("java/lang/String", "coder", "B", true)
def xT5 : u_T := fun k => match k with
  | 0 => ("ZoneNet$Network", "zone", "Ljava/lang/String;", true)
  | _ => ("ZoneNet$Network", "nodes", "[Z", true)
def xT6 : u_T := fun k => match k with
  | 0 => ("ZoneNet$Router", "ports", "[Z", true)
  | 1 => ("ZoneNet$Router", "portCount", "I", true)
  | 2 => ("ZoneNet$Router", "on", "Z", false)
  | 3 => ("ZoneNet$Router", "table", "[LZoneNet$Entry;", true)
  | 4 => ("ZoneNet$Router", "told", "[I", true)
  | _ => ("ZoneNet$Router", "untoldPort", "[I", true)
def xT7 : u_T := fun k => match k with
  | 0 => ("ZoneNet$Entry", "there", "Z", false)
  | 1 => ("ZoneNet$Entry", "distance", "I", false)
  | 2 => ("ZoneNet$Entry", "next", "I", false)
  | 3 => ("ZoneNet$Entry", "port", "I", false)
  | 4 => ("ZoneNet$Entry", "health", "I", false)
  | 5 => ("ZoneNet$Entry", "zoneKnown", "Z", false)
  | _ => ("ZoneNet$Entry", "zoneWasKnown", "Z", false)
def xT8 : u_T := fun k => match k with
  | 0 => ("ZoneNet$Pattern", "object", "Ljava/lang/String;", true)
  | 1 => ("ZoneNet$Pattern", "type", "Ljava/lang/String;", true)
  | _ => ("ZoneNet$Pattern", "zone", "Ljava/lang/String;", true)
def xT9 : u_T := fun k => match k with
  | 0 => ("ZoneNet$Service", "network", "I", true)
  | 1 => ("ZoneNet$Service", "object", "Ljava/lang/String;", true)
  | 2 => ("ZoneNet$Service", "type", "Ljava/lang/String;", true)
  | 3 => ("ZoneNet$Service", "dropped", "Z", false)
  | 4 => ("ZoneNet$Service", "records", "[I", true)
  | 5 => ("ZoneNet$Service", "doneCount", "I", false)
  | _ => ("ZoneNet$Service", "list", "[LZoneNet$Listed;", true)
def xT10 : u_T := fun k => match k with
  | 0 => ("ZoneNet$Listed", "used", "Z", false)
  | 1 => ("ZoneNet$Listed", "session", "I", false)
  | 2 => ("ZoneNet$Listed", "number", "I", false)
  | 3 => ("ZoneNet$Listed", "answer", "I", false)
  | _ => ("ZoneNet$Listed", "time", "I", false)
def xT11 : u_T := fun k => match k with
  | 0 => ("ZoneNet$Session", "index", "I", true)
  | 1 => ("ZoneNet$Session", "network", "I", true)
  | 2 => ("ZoneNet$Session", "service", "LZoneNet$Service;", true)
  | 3 => ("ZoneNet$Session", "closed", "Z", false)
  | 4 => ("ZoneNet$Session", "silence", "I", false)
  | 5 => ("ZoneNet$Session", "number", "I", false)
  | 6 => ("ZoneNet$Session", "state", "I", false)
  | 7 => ("ZoneNet$Session", "key", "I", false)
  | 8 => ("ZoneNet$Session", "value", "I", false)
  | 9 => ("ZoneNet$Session", "missingParts", "I", false)
  | 10 => ("ZoneNet$Session", "tried", "I", false)
  | 11 => ("ZoneNet$Session", "triedAt", "I", false)
  | _ => ("ZoneNet$Session", "latestAnswer", "I", false)
def xT12 : u_T := fun k => match k with
  | 0 => ("ZoneNetModel", "interval", "I", true)
  | 1 => ("ZoneNetModel", "tries", "I", true)
  | 2 => ("ZoneNetModel", "release", "I", true)
  | 3 => ("ZoneNetModel", "text", "[C", true)
  | 4 => ("ZoneNetModel", "size", "I", false)
  | 5 => ("ZoneNetModel", "letters", "[C", true)
  | 6 => ("ZoneNetModel", "lengths", "[I", true)
  | 7 => ("ZoneNetModel", "networks", "I", false)
  | 8 => ("ZoneNetModel", "node", "[Z", true)
  | 9 => ("ZoneNetModel", "routers", "I", false)
  | 10 => ("ZoneNetModel", "ports", "[I", true)
  | 11 => ("ZoneNetModel", "on", "[Z", true)
  | 12 => ("ZoneNetModel", "far", "[I", true)
  | 13 => ("ZoneNetModel", "next", "[I", true)
  | 14 => ("ZoneNetModel", "port", "[I", true)
  | 15 => ("ZoneNetModel", "health", "[I", true)
  | 16 => ("ZoneNetModel", "known", "[Z", true)
  | 17 => ("ZoneNetModel", "oldFar", "[I", true)
  | 18 => ("ZoneNetModel", "oldPort", "[I", true)
  | 19 => ("ZoneNetModel", "oldHealth", "[I", true)
  | 20 => ("ZoneNetModel", "oldKnown", "[Z", true)
  | 21 => ("ZoneNetModel", "now", "I", false)
  | 22 => ("ZoneNetModel", "services", "I", false)
  | 23 => ("ZoneNetModel", "home", "[I", true)
  | 24 => ("ZoneNetModel", "dropped", "[Z", true)
  | 25 => ("ZoneNetModel", "records", "[I", true)
  | 26 => ("ZoneNetModel", "commands", "[I", true)
  | 27 => ("ZoneNetModel", "listed", "[I", true)
  | 28 => ("ZoneNetModel", "entrySession", "[I", true)
  | 29 => ("ZoneNetModel", "entryNumber", "[I", true)
  | 30 => ("ZoneNetModel", "entryAnswer", "[I", true)
  | 31 => ("ZoneNetModel", "entryTime", "[I", true)
  | 32 => ("ZoneNetModel", "found", "[I", true)
  | 33 => ("ZoneNetModel", "founds", "I", false)
  | 34 => ("ZoneNetModel", "sessions", "I", false)
  | 35 => ("ZoneNetModel", "client", "[I", true)
  | 36 => ("ZoneNetModel", "server", "[I", true)
  | 37 => ("ZoneNetModel", "closed", "[Z", true)
  | 38 => ("ZoneNetModel", "silence", "[I", true)
  | 39 => ("ZoneNetModel", "given", "[I", true)
  | 40 => ("ZoneNetModel", "state", "[I", true)
  | 41 => ("ZoneNetModel", "key", "[I", true)
  | 42 => ("ZoneNetModel", "value", "[I", true)
  | 43 => ("ZoneNetModel", "lacking", "[I", true)
  | 44 => ("ZoneNetModel", "tried", "[I", true)
  | 45 => ("ZoneNetModel", "latest", "[I", true)
  | 46 => ("ZoneNetModel", "answer", "[I", true)
  | 47 => ("ZoneNetModel", "losses", "I", false)
  | _ => ("ZoneNetModel", "sent", "I", false)
def xcl : List vw_C := [("ZoneNet", xT0, 15), ("java/lang/StringBuilder", xT1, 4), ("ZoneNet$Mesh", xT2, 4), ("ZoneNet$Line", xT3, 3), ("java/lang/String", xT4, 2), ("ZoneNet$Network", xT5, 2), ("ZoneNet$Router", xT6, 6), ("ZoneNet$Entry", xT7, 7), ("ZoneNet$Pattern", xT8, 3), ("ZoneNet$Service", xT9, 7), ("ZoneNet$Listed", xT10, 5), ("ZoneNet$Session", xT11, 13), ("ZoneNetModel", xT12, 49)]
def xaciL : List Nat := [5, 6, 9, 11, 7, 10]
/-- the class of the elements of an array of references -/
def xaci (t : Nat) : Nat := xaciL.getD (t - 4) 999
def xaty (t : Nat) : FieldType := match t with
  | 0 => .int
  | 1 => .byte
  | 2 => .boolean
  | 3 => .char
  | t => .object ((xcl[xaci t]?).elim "" (fun q => q.1))
abbrev xK : Type := MethodName × ByteArray × Nat × Option FieldType × Nat × Nat × Nat × Nat × Nat
def xm0 : xK := (⟨"ZoneNetLaw", "law", "([I)Z"⟩, code, 4, ret, 14, 538, 600000, 7302250, 13)
def xm1 : xK := (⟨"ZoneNetLaw", "cell", "([II)I"⟩, method_2_code, 2, (Option.some Jvm.ClassFile.FieldType.int), 1, 40, 0, 0, 13)
def xm2 : xK := (⟨"ZoneNet", "<init>", "(III)V"⟩, prog_1_method_1_code, 4, (Option.none : Option Jvm.ClassFile.FieldType), 3, 81, 12, 120, 0)
def xm3 : xK := (⟨"ZoneNet", "write", "(C)Z"⟩, prog_1_method_2_code, 2, (Option.some Jvm.ClassFile.FieldType.boolean), 6, 152, 1, 34, 0)
def xm4 : xK := (⟨"ZoneNet", "network", "()I"⟩, prog_1_method_3_code, 2, (Option.some Jvm.ClassFile.FieldType.int), 8, 193, 5, 82, 0)
def xm5 : xK := (⟨"ZoneNet", "router", "(I)I"⟩, prog_1_method_4_code, 2, (Option.some Jvm.ClassFile.FieldType.int), 4, 106, 13, 94, 0)
def xm6 : xK := (⟨"ZoneNet", "power", "(IZ)Z"⟩, prog_1_method_5_code, 3, (Option.some Jvm.ClassFile.FieldType.boolean), 3, 83, 0, 0, 0)
def xm7 : xK := (⟨"ZoneNet", "node", "(II)I"⟩, prog_1_method_6_code, 3, (Option.some Jvm.ClassFile.FieldType.int), 3, 86, 0, 0, 0)
def xm8 : xK := (⟨"ZoneNet", "name", "(I)I"⟩, prog_1_method_7_code, 4, (Option.some Jvm.ClassFile.FieldType.int), 9, 222, 19, 210, 0)
def xm9 : xK := (⟨"ZoneNet", "drop", "(I)Z"⟩, prog_1_method_8_code, 2, (Option.some Jvm.ClassFile.FieldType.boolean), 2, 61, 0, 0, 0)
def xm10 : xK := (⟨"ZoneNet", "lookup", "(I)I"⟩, prog_1_method_9_code, 3, (Option.some Jvm.ClassFile.FieldType.int), 9, 222, 10, 189, 0)
def xm11 : xK := (⟨"ZoneNet", "found", "(I)I"⟩, prog_1_method_10_code, 2, (Option.some Jvm.ClassFile.FieldType.int), 1, 40, 0, 0, 0)
def xm12 : xK := (⟨"ZoneNet", "tick", "()I"⟩, prog_1_method_11_code, 2, (Option.some Jvm.ClassFile.FieldType.int), 7, 178, 0, 0, 0)
def xm13 : xK := (⟨"ZoneNet", "route", "(II)I"⟩, prog_1_method_12_code, 3, (Option.some Jvm.ClassFile.FieldType.int), 2, 61, 0, 0, 0)
def xm14 : xK := (⟨"ZoneNet", "hops", "(II)I"⟩, prog_1_method_13_code, 3, (Option.some Jvm.ClassFile.FieldType.int), 3, 87, 0, 0, 0)
def xm15 : xK := (⟨"ZoneNet", "open", "(II)I"⟩, prog_1_method_14_code, 4, (Option.some Jvm.ClassFile.FieldType.int), 4, 109, 1, 13, 0)
def xm16 : xK := (⟨"ZoneNet", "command", "(IIII)I"⟩, prog_1_method_15_code, 6, (Option.some Jvm.ClassFile.FieldType.int), 6, 156, 0, 0, 0)
def xm17 : xK := (⟨"ZoneNet", "status", "(I)I"⟩, prog_1_method_16_code, 2, (Option.some Jvm.ClassFile.FieldType.int), 2, 61, 0, 0, 0)
def xm18 : xK := (⟨"ZoneNet", "reply", "(I)I"⟩, prog_1_method_17_code, 2, (Option.some Jvm.ClassFile.FieldType.int), 2, 61, 0, 0, 0)
def xm19 : xK := (⟨"ZoneNet", "missing", "(I)I"⟩, prog_1_method_18_code, 2, (Option.some Jvm.ClassFile.FieldType.int), 2, 61, 0, 0, 0)
def xm20 : xK := (⟨"ZoneNet", "ledger", "(II)I"⟩, prog_1_method_19_code, 3, (Option.some Jvm.ClassFile.FieldType.int), 3, 83, 0, 0, 0)
def xm21 : xK := (⟨"ZoneNet", "faults", "(I)V"⟩, prog_1_method_20_code, 2, (Option.none : Option Jvm.ClassFile.FieldType), 1, 40, 0, 0, 0)
def xm22 : xK := (⟨"ZoneNet", "packets", "()I"⟩, prog_1_method_21_code, 1, (Option.some Jvm.ClassFile.FieldType.int), 1, 40, 0, 0, 0)
def xm23 : xK := (⟨"ZoneNet", "takeText", "()Ljava/lang/String;"⟩, prog_1_method_22_code, 2, (Option.some (Jvm.ClassFile.FieldType.object "java/lang/String")), 7, 172, 3, 72, 0)
def xm24 : xK := (⟨"ZoneNet", "look", "(ILZoneNet$Pattern;[I)I"⟩, prog_1_method_25_code, 9, (Option.some Jvm.ClassFile.FieldType.int), 8, 194, 0, 0, 0)
def xm25 : xK := (⟨"ZoneNet", "hasService", "(I)Z"⟩, prog_1_method_23_code, 2, (Option.some Jvm.ClassFile.FieldType.boolean), 1, 40, 0, 0, 0)
def xm26 : xK := (⟨"ZoneNet", "releaseOld", "()V"⟩, prog_1_method_26_code, 2, (Option.none : Option Jvm.ClassFile.FieldType), 2, 62, 0, 0, 0)
def xm27 : xK := (⟨"ZoneNet", "countSilence", "()V"⟩, prog_1_method_27_code, 3, (Option.none : Option Jvm.ClassFile.FieldType), 4, 109, 0, 0, 0)
def xm28 : xK := (⟨"ZoneNet", "tryAgain", "()V"⟩, prog_1_method_28_code, 3, (Option.none : Option Jvm.ClassFile.FieldType), 6, 156, 0, 0, 0)
def xm29 : xK := (⟨"ZoneNet", "hasSession", "(I)Z"⟩, prog_1_method_24_code, 2, (Option.some Jvm.ClassFile.FieldType.boolean), 1, 40, 0, 0, 0)
def xm30 : xK := (⟨"ZoneNet", "tryOnce", "(LZoneNet$Session;)V"⟩, prog_1_method_29_code, 4, (Option.none : Option Jvm.ClassFile.FieldType), 5, 133, 0, 0, 0)
def xm31 : xK := (⟨"ZoneNet", "sendMissingParts", "(LZoneNet$Session;)V"⟩, prog_1_method_30_code, 4, (Option.none : Option Jvm.ClassFile.FieldType), 4, 110, 0, 0, 0)
def xm32 : xK := (⟨"ZoneNet$Mesh", "<init>", "()V"⟩, prog_5_method_1_code, 1, (Option.none : Option Jvm.ClassFile.FieldType), 1, 40, 2, 14, 2)
def xm33 : xK := (⟨"ZoneNet$Mesh", "addNetwork", "(Ljava/lang/String;)I"⟩, prog_5_method_5_code, 2, (Option.some Jvm.ClassFile.FieldType.int), 2, 61, 2, 10, 2)
def xm34 : xK := (⟨"ZoneNet$Mesh", "addRouter", "(I)I"⟩, prog_5_method_6_code, 4, (Option.some Jvm.ClassFile.FieldType.int), 3, 83, 13, 94, 2)
def xm35 : xK := (⟨"ZoneNet$Mesh", "hasRouter", "(I)Z"⟩, prog_5_method_3_code, 2, (Option.some Jvm.ClassFile.FieldType.boolean), 1, 40, 0, 0, 2)
def xm36 : xK := (⟨"ZoneNet$Mesh", "addNode", "(II)I"⟩, prog_5_method_7_code, 6, (Option.some Jvm.ClassFile.FieldType.int), 2, 61, 0, 0, 2)
def xm37 : xK := (⟨"ZoneNet$Mesh", "hasNode", "(I)Z"⟩, prog_5_method_4_code, 2, (Option.some Jvm.ClassFile.FieldType.boolean), 2, 61, 0, 0, 2)
def xm38 : xK := (⟨"ZoneNet$Mesh", "tellPairs", "()I"⟩, prog_5_method_11_code, 3, (Option.some Jvm.ClassFile.FieldType.int), 2, 63, 0, 0, 2)
def xm39 : xK := (⟨"ZoneNet$Mesh", "ageEntries", "()V"⟩, prog_5_method_12_code, 3, (Option.none : Option Jvm.ClassFile.FieldType), 3, 80, 0, 0, 2)
def xm40 : xK := (⟨"ZoneNet$Mesh", "takePairs", "()V"⟩, prog_5_method_13_code, 3, (Option.none : Option Jvm.ClassFile.FieldType), 4, 108, 0, 0, 2)
def xm41 : xK := (⟨"ZoneNet$Mesh", "learnZones", "()V"⟩, prog_5_method_14_code, 4, (Option.none : Option Jvm.ClassFile.FieldType), 2, 61, 0, 0, 2)
def xm42 : xK := (⟨"ZoneNet$Mesh", "hasNetwork", "(I)Z"⟩, prog_5_method_2_code, 2, (Option.some Jvm.ClassFile.FieldType.boolean), 1, 40, 0, 0, 2)
def xm43 : xK := (⟨"ZoneNet$Mesh", "countHops", "(II)I"⟩, prog_5_method_8_code, 6, (Option.some Jvm.ClassFile.FieldType.int), 2, 62, 0, 0, 2)
def xm44 : xK := (⟨"ZoneNet$Mesh", "areJoined", "(II)Z"⟩, prog_5_method_9_code, 3, (Option.some Jvm.ClassFile.FieldType.boolean), 3, 87, 0, 0, 2)
def xm45 : xK := (⟨"ZoneNet$Mesh", "lookAround", "(ILjava/lang/String;[I)V"⟩, prog_5_method_10_code, 9, (Option.none : Option Jvm.ClassFile.FieldType), 4, 109, 0, 0, 2)
def xm46 : xK := (⟨"ZoneNet$Mesh", "firstRouter", "(I)I"⟩, prog_5_method_15_code, 3, (Option.some Jvm.ClassFile.FieldType.int), 1, 40, 0, 0, 2)
def xm47 : xK := (⟨"ZoneNet$Router", "turn", "(Z)V"⟩, prog_9_method_2_code, 3, (Option.none : Option Jvm.ClassFile.FieldType), 2, 61, 0, 0, 6)
def xm48 : xK := (⟨"ZoneNet$Router", "<init>", "(I)V"⟩, prog_9_method_1_code, 3, (Option.none : Option Jvm.ClassFile.FieldType), 2, 60, 12, 88, 6)
def xm49 : xK := (⟨"ZoneNet$Router", "tellPairs", "()I"⟩, prog_9_method_3_code, 4, (Option.some Jvm.ClassFile.FieldType.int), 1, 40, 0, 0, 6)
def xm50 : xK := (⟨"ZoneNet$Router", "takeFrom", "(LZoneNet$Router;I)V"⟩, prog_9_method_4_code, 5, (Option.none : Option Jvm.ClassFile.FieldType), 3, 84, 0, 0, 6)
def xm51 : xK := (⟨"ZoneNet$Entry", "inOneNumber", "()I"⟩, prog_2_method_6_code, 2, (Option.some Jvm.ClassFile.FieldType.int), 1, 40, 0, 0, 7)
def xm52 : xK := (⟨"ZoneNet$Entry", "becomeOwn", "(I)V"⟩, prog_2_method_2_code, 2, (Option.none : Option Jvm.ClassFile.FieldType), 1, 40, 0, 0, 7)
def xm53 : xK := (⟨"ZoneNet$Entry", "remove", "()V"⟩, prog_2_method_3_code, 1, (Option.none : Option Jvm.ClassFile.FieldType), 1, 40, 0, 0, 7)
def xm54 : xK := (⟨"ZoneNet$Entry", "age", "()V"⟩, prog_2_method_4_code, 1, (Option.none : Option Jvm.ClassFile.FieldType), 2, 60, 0, 0, 7)
def xm55 : xK := (⟨"ZoneNet$Entry", "<init>", "()V"⟩, prog_2_method_1_code, 1, (Option.none : Option Jvm.ClassFile.FieldType), 1, 40, 0, 0, 7)
def xm56 : xK := (⟨"ZoneNet$Entry", "take", "(III)V"⟩, prog_2_method_5_code, 5, (Option.none : Option Jvm.ClassFile.FieldType), 2, 60, 0, 0, 7)
def xm57 : xK := (⟨"ZoneNet$Network", "<init>", "(Ljava/lang/String;)V"⟩, prog_7_method_1_code, 2, (Option.none : Option Jvm.ClassFile.FieldType), 1, 40, 1, 8, 5)
def xm58 : xK := (⟨"ZoneNet$Line", "<init>", "(LZoneNet$Mesh;)V"⟩, prog_3_method_1_code, 2, (Option.none : Option Jvm.ClassFile.FieldType), 1, 40, 0, 0, 3)
def xm59 : xK := (⟨"ZoneNet$Line", "carries", "(II)Z"⟩, prog_3_method_2_code, 4, (Option.some Jvm.ClassFile.FieldType.boolean), 3, 87, 0, 0, 3)
def xm60 : xK := (⟨"ZoneNet$Service", "<init>", "(ILjava/lang/String;Ljava/lang/String;)V"⟩, prog_10_method_1_code, 5, (Option.none : Option Jvm.ClassFile.FieldType), 2, 60, 10, 52, 9)
def xm61 : xK := (⟨"ZoneNet$Service", "account", "(I)I"⟩, prog_10_method_6_code, 2, (Option.some Jvm.ClassFile.FieldType.int), 2, 62, 0, 0, 9)
def xm62 : xK := (⟨"ZoneNet$Service", "fits", "(LZoneNet$Pattern;)Z"⟩, prog_10_method_2_code, 2, (Option.some Jvm.ClassFile.FieldType.boolean), 7, 173, 0, 0, 9)
def xm63 : xK := (⟨"ZoneNet$Service", "releaseUpTo", "(I)V"⟩, prog_10_method_5_code, 3, (Option.none : Option Jvm.ClassFile.FieldType), 1, 40, 0, 0, 9)
def xm64 : xK := (⟨"ZoneNet$Service", "entryFor", "(LZoneNet$Session;)LZoneNet$Listed;"⟩, prog_10_method_3_code, 5, (Option.some (Jvm.ClassFile.FieldType.object "ZoneNet$Listed")), 2, 63, 0, 0, 9)
def xm65 : xK := (⟨"ZoneNet$Service", "countListed", "()I"⟩, prog_10_method_7_code, 3, (Option.some Jvm.ClassFile.FieldType.int), 1, 40, 0, 0, 9)
def xm66 : xK := (⟨"ZoneNet$Service", "carryOut", "(II)I"⟩, prog_10_method_4_code, 4, (Option.some Jvm.ClassFile.FieldType.int), 1, 40, 0, 0, 9)
def xm67 : xK := (⟨"ZoneNet$Listed", "<init>", "()V"⟩, prog_4_method_1_code, 1, (Option.none : Option Jvm.ClassFile.FieldType), 1, 40, 0, 0, 10)
def xm68 : xK := (⟨"ZoneNet$Session", "<init>", "(IILZoneNet$Service;)V"⟩, prog_11_method_1_code, 4, (Option.none : Option Jvm.ClassFile.FieldType), 1, 40, 0, 0, 11)
def xm69 : xK := (⟨"ZoneNet$Session", "begin", "(III)V"⟩, prog_11_method_2_code, 4, (Option.none : Option Jvm.ClassFile.FieldType), 1, 40, 0, 0, 11)
def xm70 : xK := (⟨"ZoneNet$Session", "hear", "(Z)V"⟩, prog_11_method_3_code, 2, (Option.none : Option Jvm.ClassFile.FieldType), 1, 40, 0, 0, 11)
def xm71 : xK := (⟨"ZoneNet$Pattern", "ofNames", "(Ljava/lang/String;)LZoneNet$Pattern;"⟩, prog_8_method_3_code, 4, (Option.some (Jvm.ClassFile.FieldType.object "ZoneNet$Pattern")), 7, 174, 5, 79, 8)
def xm72 : xK := (⟨"ZoneNet$Pattern", "of", "(Ljava/lang/String;)LZoneNet$Pattern;"⟩, prog_8_method_2_code, 7, (Option.some (Jvm.ClassFile.FieldType.object "ZoneNet$Pattern")), 8, 193, 7, 117, 8)
def xm73 : xK := (⟨"ZoneNet$Pattern", "<init>", "(Ljava/lang/String;Ljava/lang/String;Ljava/lang/String;)V"⟩, prog_8_method_1_code, 4, (Option.none : Option Jvm.ClassFile.FieldType), 1, 40, 0, 0, 8)
def xm74 : xK := (⟨"ZoneNet$Names", "isName", "(Ljava/lang/String;)Z"⟩, prog_6_method_2_code, 1, (Option.some Jvm.ClassFile.FieldType.boolean), 6, 153, 0, 0, 14)
def xm75 : xK := (⟨"ZoneNet$Names", "countSigns", "(Ljava/lang/String;)I"⟩, prog_6_method_5_code, 3, (Option.some Jvm.ClassFile.FieldType.int), 5, 131, 0, 0, 14)
def xm76 : xK := (⟨"ZoneNet$Names", "isMask", "(Ljava/lang/String;)Z"⟩, prog_6_method_3_code, 1, (Option.some Jvm.ClassFile.FieldType.boolean), 7, 173, 0, 0, 14)
def xm77 : xK := (⟨"ZoneNet$Names", "fits", "(Ljava/lang/String;Ljava/lang/String;)Z"⟩, prog_6_method_4_code, 4, (Option.some Jvm.ClassFile.FieldType.boolean), 6, 150, 0, 0, 14)
def xm78 : xK := (⟨"ZoneNet$Names", "isSame", "(Ljava/lang/String;ILjava/lang/String;II)Z"⟩, prog_6_method_6_code, 6, (Option.some Jvm.ClassFile.FieldType.boolean), 5, 125, 0, 0, 14)
def xm79 : xK := (⟨"ZoneNetModel", "<init>", "(III)V"⟩, prog_13_method_1_code, 5, (Option.none : Option Jvm.ClassFile.FieldType), 1, 40, 37, 3000, 12)
def xm80 : xK := (⟨"ZoneNetModel", "write", "(C)Z"⟩, prog_13_method_2_code, 2, (Option.some Jvm.ClassFile.FieldType.boolean), 1, 40, 0, 0, 12)
def xm81 : xK := (⟨"ZoneNetModel", "network", "()I"⟩, prog_13_method_14_code, 2, (Option.some Jvm.ClassFile.FieldType.int), 4, 106, 0, 0, 12)
def xm82 : xK := (⟨"ZoneNetModel", "router", "(I)I"⟩, prog_13_method_17_code, 5, (Option.some Jvm.ClassFile.FieldType.int), 3, 86, 0, 0, 12)
def xm83 : xK := (⟨"ZoneNetModel", "power", "(IZ)Z"⟩, prog_13_method_18_code, 3, (Option.some Jvm.ClassFile.FieldType.boolean), 3, 86, 0, 0, 12)
def xm84 : xK := (⟨"ZoneNetModel", "node", "(II)I"⟩, prog_13_method_19_code, 5, (Option.some Jvm.ClassFile.FieldType.int), 1, 40, 0, 0, 12)
def xm85 : xK := (⟨"ZoneNetModel", "name", "(I)I"⟩, prog_13_method_32_code, 3, (Option.some Jvm.ClassFile.FieldType.int), 6, 157, 0, 0, 12)
def xm86 : xK := (⟨"ZoneNetModel", "drop", "(I)Z"⟩, prog_13_method_34_code, 2, (Option.some Jvm.ClassFile.FieldType.boolean), 1, 40, 0, 0, 12)
def xm87 : xK := (⟨"ZoneNetModel", "lookup", "(I)I"⟩, prog_13_method_36_code, 3, (Option.some Jvm.ClassFile.FieldType.int), 6, 160, 0, 0, 12)
def xm88 : xK := (⟨"ZoneNetModel", "found", "(I)I"⟩, prog_13_method_38_code, 2, (Option.some Jvm.ClassFile.FieldType.int), 1, 40, 0, 0, 12)
def xm89 : xK := (⟨"ZoneNetModel", "tick", "()I"⟩, prog_13_method_30_code, 4, (Option.some Jvm.ClassFile.FieldType.int), 6, 157, 0, 0, 12)
def xm90 : xK := (⟨"ZoneNetModel", "route", "(II)I"⟩, prog_13_method_24_code, 4, (Option.some Jvm.ClassFile.FieldType.int), 1, 40, 0, 0, 12)
def xm91 : xK := (⟨"ZoneNetModel", "hops", "(II)I"⟩, prog_13_method_23_code, 3, (Option.some Jvm.ClassFile.FieldType.int), 4, 108, 0, 0, 12)
def xm92 : xK := (⟨"ZoneNetModel", "open", "(II)I"⟩, prog_13_method_40_code, 5, (Option.some Jvm.ClassFile.FieldType.int), 4, 108, 0, 0, 12)
def xm93 : xK := (⟨"ZoneNetModel", "command", "(IIII)I"⟩, prog_13_method_42_code, 5, (Option.some Jvm.ClassFile.FieldType.int), 6, 157, 0, 0, 12)
def xm94 : xK := (⟨"ZoneNetModel", "status", "(I)I"⟩, prog_13_method_48_code, 2, (Option.some Jvm.ClassFile.FieldType.int), 2, 61, 0, 0, 12)
def xm95 : xK := (⟨"ZoneNetModel", "reply", "(I)I"⟩, prog_13_method_49_code, 2, (Option.some Jvm.ClassFile.FieldType.int), 2, 61, 0, 0, 12)
def xm96 : xK := (⟨"ZoneNetModel", "missing", "(I)I"⟩, prog_13_method_50_code, 2, (Option.some Jvm.ClassFile.FieldType.int), 2, 61, 0, 0, 12)
def xm97 : xK := (⟨"ZoneNetModel", "ledger", "(II)I"⟩, prog_13_method_39_code, 3, (Option.some Jvm.ClassFile.FieldType.int), 1, 40, 0, 0, 12)
def xm98 : xK := (⟨"ZoneNetModel", "faults", "(I)V"⟩, prog_13_method_51_code, 2, (Option.none : Option Jvm.ClassFile.FieldType), 1, 40, 0, 0, 12)
def xm99 : xK := (⟨"ZoneNetModel", "packets", "()I"⟩, prog_13_method_52_code, 1, (Option.some Jvm.ClassFile.FieldType.int), 1, 40, 0, 0, 12)
def xm100 : xK := (⟨"ZoneNetModel", "isName", "(II)Z"⟩, prog_13_method_6_code, 3, (Option.some Jvm.ClassFile.FieldType.boolean), 3, 84, 0, 0, 12)
def xm101 : xK := (⟨"ZoneNetModel", "keep", "(III)V"⟩, prog_13_method_10_code, 5, (Option.none : Option Jvm.ClassFile.FieldType), 1, 40, 0, 0, 12)
def xm102 : xK := (⟨"ZoneNetModel", "fresh", "(I)V"⟩, prog_13_method_16_code, 5, (Option.none : Option Jvm.ClassFile.FieldType), 2, 62, 0, 0, 12)
def xm103 : xK := (⟨"ZoneNetModel", "isNode", "(I)Z"⟩, prog_13_method_20_code, 2, (Option.some Jvm.ClassFile.FieldType.boolean), 1, 40, 0, 0, 12)
def xm104 : xK := (⟨"ZoneNetModel", "make", "(I)I"⟩, prog_13_method_33_code, 5, (Option.some Jvm.ClassFile.FieldType.int), 5, 133, 0, 0, 12)
def xm105 : xK := (⟨"ZoneNetModel", "search", "(I)I"⟩, prog_13_method_37_code, 8, (Option.some Jvm.ClassFile.FieldType.int), 5, 133, 0, 0, 12)
def xm106 : xK := (⟨"ZoneNetModel", "copy", "()I"⟩, prog_13_method_25_code, 4, (Option.some Jvm.ClassFile.FieldType.int), 2, 62, 0, 0, 12)
def xm107 : xK := (⟨"ZoneNetModel", "age", "()V"⟩, prog_13_method_26_code, 2, (Option.none : Option Jvm.ClassFile.FieldType), 1, 40, 0, 0, 12)
def xm108 : xK := (⟨"ZoneNetModel", "takeAll", "(I)V"⟩, prog_13_method_28_code, 5, (Option.none : Option Jvm.ClassFile.FieldType), 2, 67, 0, 0, 12)
def xm109 : xK := (⟨"ZoneNetModel", "zones", "()V"⟩, prog_13_method_29_code, 2, (Option.none : Option Jvm.ClassFile.FieldType), 1, 40, 0, 0, 12)
def xm110 : xK := (⟨"ZoneNetModel", "strike", "(II)V"⟩, prog_13_method_45_code, 4, (Option.none : Option Jvm.ClassFile.FieldType), 1, 40, 0, 0, 12)
def xm111 : xK := (⟨"ZoneNetModel", "silent", "(I)V"⟩, prog_13_method_31_code, 4, (Option.none : Option Jvm.ClassFile.FieldType), 4, 108, 0, 0, 12)
def xm112 : xK := (⟨"ZoneNetModel", "attempt", "(I)V"⟩, prog_13_method_47_code, 7, (Option.none : Option Jvm.ClassFile.FieldType), 5, 131, 0, 0, 12)
def xm113 : xK := (⟨"ZoneNetModel", "way", "(II)I"⟩, prog_13_method_22_code, 5, (Option.some Jvm.ClassFile.FieldType.int), 3, 84, 0, 0, 12)
def xm114 : xK := (⟨"ZoneNetModel", "isSession", "(I)Z"⟩, prog_13_method_41_code, 2, (Option.some Jvm.ClassFile.FieldType.boolean), 1, 40, 0, 0, 12)
def xm115 : xK := (⟨"ZoneNetModel", "signs", "(II)I"⟩, prog_13_method_5_code, 5, (Option.some Jvm.ClassFile.FieldType.int), 2, 60, 0, 0, 12)
def xm116 : xK := (⟨"ZoneNetModel", "has", "(II)Z"⟩, prog_13_method_15_code, 3, (Option.some Jvm.ClassFile.FieldType.boolean), 1, 40, 0, 0, 12)
def xm117 : xK := (⟨"ZoneNetModel", "place", "(C)I"⟩, prog_13_method_7_code, 3, (Option.some Jvm.ClassFile.FieldType.int), 1, 40, 0, 0, 12)
def xm118 : xK := (⟨"ZoneNetModel", "reach", "(III)I"⟩, prog_13_method_35_code, 6, (Option.some Jvm.ClassFile.FieldType.int), 4, 108, 0, 0, 12)
def xm119 : xK := (⟨"ZoneNetModel", "fits", "(III)Z"⟩, prog_13_method_12_code, 6, (Option.some Jvm.ClassFile.FieldType.boolean), 3, 85, 0, 0, 12)
def xm120 : xK := (⟨"ZoneNetModel", "isMask", "(II)Z"⟩, prog_13_method_9_code, 3, (Option.some Jvm.ClassFile.FieldType.boolean), 4, 106, 0, 0, 12)
def xm121 : xK := (⟨"ZoneNetModel", "take", "(IIII)V"⟩, prog_13_method_27_code, 8, (Option.none : Option Jvm.ClassFile.FieldType), 1, 40, 0, 0, 12)
def xm122 : xK := (⟨"ZoneNetModel", "packet", "(II)Z"⟩, prog_13_method_43_code, 4, (Option.some Jvm.ClassFile.FieldType.boolean), 4, 108, 0, 0, 12)
def xm123 : xK := (⟨"ZoneNetModel", "entry", "(III)I"⟩, prog_13_method_44_code, 5, (Option.some Jvm.ClassFile.FieldType.int), 1, 40, 0, 0, 12)
def xm124 : xK := (⟨"ZoneNetModel", "carry", "(II)I"⟩, prog_13_method_46_code, 5, (Option.some Jvm.ClassFile.FieldType.int), 1, 40, 0, 0, 12)
def xm125 : xK := (⟨"ZoneNetModel", "first", "(I)I"⟩, prog_13_method_21_code, 3, (Option.some Jvm.ClassFile.FieldType.int), 2, 62, 0, 0, 12)
def xm126 : xK := (⟨"ZoneNetModel", "sign", "(C)Z"⟩, prog_13_method_3_code, 1, (Option.some Jvm.ClassFile.FieldType.boolean), 1, 40, 0, 0, 12)
def xm127 : xK := (⟨"ZoneNetModel", "sameName", "(II)Z"⟩, prog_13_method_13_code, 5, (Option.some Jvm.ClassFile.FieldType.boolean), 2, 60, 0, 0, 12)
def xm128 : xK := (⟨"ZoneNetModel", "stands", "(IIII)Z"⟩, prog_13_method_11_code, 6, (Option.some Jvm.ClassFile.FieldType.boolean), 2, 60, 0, 0, 12)
def xm129 : xK := (⟨"ZoneNetModel", "tilde", "(II)I"⟩, prog_13_method_8_code, 4, (Option.some Jvm.ClassFile.FieldType.int), 1, 40, 0, 0, 12)
def xm130 : xK := (⟨"ZoneNetModel", "small", "(C)C"⟩, prog_13_method_4_code, 1, (Option.some Jvm.ClassFile.FieldType.char), 1, 40, 0, 0, 12)
def xm131 : xK := (⟨"java/lang/AbstractStringBuilder", "<init>", "(I)V"⟩, prog_14_method_2_code, 2, (Option.none : Option Jvm.ClassFile.FieldType), 1, 40, 1, 16, 15)
def xm132 : xK := (⟨"java/lang/AbstractStringBuilder", "length", "()I"⟩, prog_14_method_6_code, 1, (Option.some Jvm.ClassFile.FieldType.int), 1, 40, 0, 0, 15)
def xm133 : xK := (⟨"java/lang/AbstractStringBuilder", "append", "(C)Ljava/lang/AbstractStringBuilder;"⟩, prog_14_method_31_code, 2, (Option.some (Jvm.ClassFile.FieldType.object "java/lang/AbstractStringBuilder")), 4, 110, 1, 34, 15)
def xm134 : xK := (⟨"java/lang/AbstractStringBuilder", "ensureCapacityInternal", "(I)V"⟩, prog_14_method_9_code, 3, (Option.none : Option Jvm.ClassFile.FieldType), 3, 88, 1, 34, 15)
def xm135 : xK := (⟨"java/lang/AbstractStringBuilder", "isLatin1", "()Z"⟩, prog_14_method_68_code, 1, (Option.some Jvm.ClassFile.FieldType.boolean), 1, 40, 0, 0, 15)
def xm136 : xK := (⟨"java/lang/AbstractStringBuilder", "setLength", "(I)V"⟩, prog_14_method_13_code, 2, (Option.none : Option Jvm.ClassFile.FieldType), 4, 110, 1, 34, 15)
def xm137 : xK := (⟨"java/lang/AbstractStringBuilder", "newCapacity", "(I)I"⟩, prog_14_method_10_code, 6, (Option.some Jvm.ClassFile.FieldType.int), 2, 63, 0, 0, 15)
def xm138 : xK := (⟨"java/lang/AbstractStringBuilder", "getValue", "()[B"⟩, prog_14_method_64_code, 1, (Option.some (Jvm.ClassFile.FieldType.array Jvm.ClassFile.FieldType.byte)), 1, 40, 0, 0, 15)
def xm139 : xK := (⟨"java/lang/Integer", "bitCount", "(I)I"⟩, prog_17_method_49_code, 1, (Option.some Jvm.ClassFile.FieldType.int), 1, 40, 0, 0, 16)
def xm140 : xK := (⟨"java/lang/Math", "min", "(II)I"⟩, prog_18_method_69_code, 2, (Option.some Jvm.ClassFile.FieldType.int), 1, 40, 0, 0, 17)
def xm141 : xK := (⟨"java/lang/Math", "max", "(II)I"⟩, prog_18_method_65_code, 2, (Option.some Jvm.ClassFile.FieldType.int), 1, 40, 0, 0, 17)
def xm142 : xK := (⟨"java/lang/String", "isEmpty", "()Z"⟩, prog_19_method_55_code, 1, (Option.some Jvm.ClassFile.FieldType.boolean), 1, 40, 0, 0, 4)
def xm143 : xK := (⟨"java/lang/String", "indexOf", "(I)I"⟩, prog_19_method_79_code, 2, (Option.some Jvm.ClassFile.FieldType.int), 4, 110, 0, 0, 4)
def xm144 : xK := (⟨"java/lang/String", "substring", "(II)Ljava/lang/String;"⟩, prog_19_method_92_code, 5, (Option.some (Jvm.ClassFile.FieldType.object "java/lang/String")), 5, 129, 2, 38, 4)
def xm145 : xK := (⟨"java/lang/String", "substring", "(I)Ljava/lang/String;"⟩, prog_19_method_91_code, 2, (Option.some (Jvm.ClassFile.FieldType.object "java/lang/String")), 6, 153, 2, 38, 4)
def xm146 : xK := (⟨"java/lang/String", "equals", "(Ljava/lang/Object;)Z"⟩, prog_19_method_66_code, 3, (Option.some Jvm.ClassFile.FieldType.boolean), 2, 62, 0, 0, 4)
def xm147 : xK := (⟨"java/lang/String", "<init>", "(Ljava/lang/StringBuilder;)V"⟩, prog_19_method_53_code, 2, (Option.none : Option Jvm.ClassFile.FieldType), 5, 131, 1, 34, 4)
def xm148 : xK := (⟨"java/lang/String", "length", "()I"⟩, prog_19_method_54_code, 1, (Option.some Jvm.ClassFile.FieldType.int), 2, 60, 0, 0, 4)
def xm149 : xK := (⟨"java/lang/String", "charAt", "(I)C"⟩, prog_19_method_56_code, 2, (Option.some Jvm.ClassFile.FieldType.char), 4, 104, 0, 0, 4)
def xm150 : xK := (⟨"java/lang/String", "indexOf", "(II)I"⟩, prog_19_method_80_code, 3, (Option.some Jvm.ClassFile.FieldType.int), 3, 88, 0, 0, 4)
def xm151 : xK := (⟨"java/lang/String", "checkBoundsBeginEnd", "(III)V"⟩, prog_19_method_158_code, 3, (Option.none : Option Jvm.ClassFile.FieldType), 2, 63, 0, 0, 4)
def xm152 : xK := (⟨"java/lang/String", "isLatin1", "()Z"⟩, prog_19_method_154_code, 1, (Option.some Jvm.ClassFile.FieldType.boolean), 1, 40, 0, 0, 4)
def xm153 : xK := (⟨"java/lang/String", "<init>", "(Ljava/lang/AbstractStringBuilder;Ljava/lang/Void;)V"⟩, prog_19_method_150_code, 5, (Option.none : Option Jvm.ClassFile.FieldType), 4, 107, 1, 34, 4)
def xm154 : xK := (⟨"java/lang/String", "coder", "()B"⟩, prog_19_method_152_code, 1, (Option.some Jvm.ClassFile.FieldType.byte), 1, 40, 0, 0, 4)
def xm155 : xK := (⟨"java/lang/String", "<init>", "([BB)V"⟩, prog_19_method_151_code, 3, (Option.none : Option Jvm.ClassFile.FieldType), 1, 40, 0, 0, 4)
def xm156 : xK := (⟨"java/lang/String", "checkIndex", "(II)V"⟩, prog_19_method_155_code, 2, (Option.none : Option Jvm.ClassFile.FieldType), 2, 62, 0, 0, 4)
def xm157 : xK := (⟨"java/lang/StringBuilder", "<init>", "()V"⟩, prog_20_method_1_code, 1, (Option.none : Option Jvm.ClassFile.FieldType), 2, 61, 1, 16, 1)
def xm158 : xK := (⟨"java/lang/StringBuilder", "length", "()I"⟩, prog_20_method_93_code, 1, (Option.some Jvm.ClassFile.FieldType.int), 2, 60, 0, 0, 1)
def xm159 : xK := (⟨"java/lang/StringBuilder", "append", "(C)Ljava/lang/StringBuilder;"⟩, prog_20_method_14_code, 2, (Option.some (Jvm.ClassFile.FieldType.object "java/lang/StringBuilder")), 5, 131, 1, 34, 1)
def xm160 : xK := (⟨"java/lang/StringBuilder", "toString", "()Ljava/lang/String;"⟩, prog_20_method_42_code, 1, (Option.some (Jvm.ClassFile.FieldType.object "java/lang/String")), 6, 152, 2, 38, 1)
def xm161 : xK := (⟨"java/lang/StringBuilder", "setLength", "(I)V"⟩, prog_20_method_89_code, 2, (Option.none : Option Jvm.ClassFile.FieldType), 5, 131, 1, 34, 1)
def xm162 : xK := (⟨"java/lang/StringLatin1", "canEncode", "(C)Z"⟩, prog_21_method_3_code, 1, (Option.some Jvm.ClassFile.FieldType.boolean), 1, 40, 0, 0, 18)
def xm163 : xK := (⟨"java/lang/StringLatin1", "newString", "([BII)Ljava/lang/String;"⟩, prog_21_method_47_code, 3, (Option.some (Jvm.ClassFile.FieldType.object "java/lang/String")), 4, 107, 2, 38, 18)
def xm164 : xK := (⟨"java/lang/StringLatin1", "equals", "([B[B)Z"⟩, prog_21_method_13_code, 3, (Option.some Jvm.ClassFile.FieldType.boolean), 1, 40, 0, 0, 18)
def xm165 : xK := (⟨"java/lang/StringLatin1", "charAt", "([BI)C"⟩, prog_21_method_2_code, 2, (Option.some Jvm.ClassFile.FieldType.char), 3, 83, 0, 0, 18)
def xm166 : xK := (⟨"java/lang/StringLatin1", "indexOf", "([BIII)I"⟩, prog_21_method_22_code, 4, (Option.some Jvm.ClassFile.FieldType.int), 2, 65, 0, 0, 18)
def xm167 : xK := (⟨"java/lang/StringLatin1", "canEncode", "(I)Z"⟩, prog_21_method_4_code, 1, (Option.some Jvm.ClassFile.FieldType.boolean), 1, 40, 0, 0, 18)
def xm168 : xK := (⟨"java/lang/StringLatin1", "indexOfChar", "([BIII)I"⟩, prog_21_method_23_code, 6, (Option.some Jvm.ClassFile.FieldType.int), 1, 40, 0, 0, 18)
def xm169 : xK := (⟨"java/util/Arrays", "copyOf", "([BI)[B"⟩, prog_24_method_121_code, 3, (Option.some (Jvm.ClassFile.FieldType.array Jvm.ClassFile.FieldType.byte)), 1, 40, 1, 34, 19)
def xm170 : xK := (⟨"java/util/Arrays", "copyOfRange", "([BII)[B"⟩, prog_24_method_132_code, 3, (Option.some (Jvm.ClassFile.FieldType.array Jvm.ClassFile.FieldType.byte)), 3, 85, 1, 34, 19)
def xm171 : xK := (⟨"java/util/Arrays", "copyOfRangeByte", "([BII)[B"⟩, prog_24_method_133_code, 5, (Option.some (Jvm.ClassFile.FieldType.array Jvm.ClassFile.FieldType.byte)), 2, 61, 1, 34, 19)
def xm172 : xK := (⟨"java/util/Arrays", "checkLength", "(II)V"⟩, prog_24_method_131_code, 2, (Option.none : Option Jvm.ClassFile.FieldType), 1, 40, 0, 0, 19)
def xm173 : xK := (⟨"jdk/internal/util/ArraysSupport", "newLength", "(III)I"⟩, prog_25_method_27_code, 4, (Option.some Jvm.ClassFile.FieldType.int), 1, 40, 0, 0, 20)
def xm174 : xK := (⟨"jdk/internal/util/Preconditions", "checkFromToIndex", "(IIILjava/util/function/BiFunction;)I"⟩, prog_26_method_12_code, 4, (Option.some Jvm.ClassFile.FieldType.int), 1, 40, 0, 0, 21)
def xm175 : xK := (⟨"jdk/internal/util/Preconditions", "checkIndex", "(IILjava/util/function/BiFunction;)I"⟩, prog_26_method_11_code, 3, (Option.some Jvm.ClassFile.FieldType.int), 1, 40, 0, 0, 21)
def xmL : List xK := [xm0, xm1, xm2, xm3, xm4, xm5, xm6, xm7, xm8, xm9, xm10, xm11, xm12, xm13, xm14, xm15, xm16, xm17, xm18, xm19, xm20, xm21, xm22, xm23, xm24, xm25, xm26, xm27, xm28, xm29, xm30, xm31, xm32, xm33, xm34, xm35, xm36, xm37, xm38, xm39, xm40, xm41, xm42, xm43, xm44, xm45, xm46, xm47, xm48, xm49, xm50, xm51, xm52, xm53, xm54, xm55, xm56, xm57, xm58, xm59, xm60, xm61, xm62, xm63, xm64, xm65, xm66, xm67, xm68, xm69, xm70, xm71, xm72, xm73, xm74, xm75, xm76, xm77, xm78, xm79, xm80, xm81, xm82, xm83, xm84, xm85, xm86, xm87, xm88, xm89, xm90, xm91, xm92, xm93, xm94, xm95, xm96, xm97, xm98, xm99, xm100, xm101, xm102, xm103, xm104, xm105, xm106, xm107, xm108, xm109, xm110, xm111, xm112, xm113, xm114, xm115, xm116, xm117, xm118, xm119, xm120, xm121, xm122, xm123, xm124, xm125, xm126, xm127, xm128, xm129, xm130, xm131, xm132, xm133, xm134, xm135, xm136, xm137, xm138, xm139, xm140, xm141, xm142, xm143, xm144, xm145, xm146, xm147, xm148, xm149, xm150, xm151, xm152, xm153, xm154, xm155, xm156, xm157, xm158, xm159, xm160, xm161, xm162, xm163, xm164, xm165, xm166, xm167, xm168, xm169, xm170, xm171, xm172, xm173, xm174, xm175]
def xm (i : Nat) : xK := xmL.getD i xm0
def xstr : List (String × Nat × String × Nat) := [("ZoneNet$Names", 43, ":@=~*", 0), ("java/lang/StringLatin1", 151, "", 1), ("ZoneNet$Pattern", 32, "*", 2), ("ZoneNet$Mesh", 83, "*", 2), ("ZoneNet$Names", 25, "=", 3)]
def xsta : List (String × String × String × Int32) := [("java/lang/String", "COMPACT_STRINGS", "Z", 1)]
theorem xcw0 : ∀ w ∈ u_ws "ZoneNet" xT0 15, w ∈ lw_tbl := by
  show ∀ w ∈ [u_lay "ZoneNet" xT0 0, u_lay "ZoneNet" xT0 1, u_lay "ZoneNet" xT0 2, u_lay "ZoneNet" xT0 3, u_lay "ZoneNet" xT0 4, u_lay "ZoneNet" xT0 5, u_lay "ZoneNet" xT0 6, u_lay "ZoneNet" xT0 7, u_lay "ZoneNet" xT0 8, u_lay "ZoneNet" xT0 9, u_lay "ZoneNet" xT0 10, u_lay "ZoneNet" xT0 11, u_lay "ZoneNet" xT0 12, u_lay "ZoneNet" xT0 13, u_lay "ZoneNet" xT0 14], w ∈ lw_tbl
  exact List.forall_mem_cons.mpr ⟨xin 127 (by decide +kernel), List.forall_mem_cons.mpr ⟨xin 129 (by decide +kernel), List.forall_mem_cons.mpr ⟨xin 131 (by decide +kernel), List.forall_mem_cons.mpr ⟨xin 133 (by decide +kernel), List.forall_mem_cons.mpr ⟨xin 135 (by decide +kernel), List.forall_mem_cons.mpr ⟨xin 137 (by decide +kernel), List.forall_mem_cons.mpr ⟨xin 139 (by decide +kernel), List.forall_mem_cons.mpr ⟨xin 141 (by decide +kernel), List.forall_mem_cons.mpr ⟨xin 143 (by decide +kernel), List.forall_mem_cons.mpr ⟨xin 145 (by decide +kernel), List.forall_mem_cons.mpr ⟨xin 147 (by decide +kernel), List.forall_mem_cons.mpr ⟨xin 149 (by decide +kernel), List.forall_mem_cons.mpr ⟨xin 151 (by decide +kernel), List.forall_mem_cons.mpr ⟨xin 153 (by decide +kernel), List.forall_mem_cons.mpr ⟨xin 155 (by decide +kernel), fun w h => absurd h List.not_mem_nil⟩⟩⟩⟩⟩⟩⟩⟩⟩⟩⟩⟩⟩⟩⟩
theorem xcw1 : ∀ w ∈ u_ws "java/lang/StringBuilder" xT1 4, w ∈ lw_tbl := by
  show ∀ w ∈ [u_lay "java/lang/StringBuilder" xT1 0, u_lay "java/lang/StringBuilder" xT1 1, u_lay "java/lang/StringBuilder" xT1 2, u_lay "java/lang/StringBuilder" xT1 3], w ∈ lw_tbl
  exact List.forall_mem_cons.mpr ⟨xin 56 (by decide +kernel), List.forall_mem_cons.mpr ⟨xin 58 (by decide +kernel), List.forall_mem_cons.mpr ⟨xin 60 (by decide +kernel), List.forall_mem_cons.mpr ⟨xin 62 (by decide +kernel), fun w h => absurd h List.not_mem_nil⟩⟩⟩⟩
theorem xcw2 : ∀ w ∈ u_ws "ZoneNet$Mesh" xT2 4, w ∈ lw_tbl := by
  show ∀ w ∈ [u_lay "ZoneNet$Mesh" xT2 0, u_lay "ZoneNet$Mesh" xT2 1, u_lay "ZoneNet$Mesh" xT2 2, u_lay "ZoneNet$Mesh" xT2 3], w ∈ lw_tbl
  exact List.forall_mem_cons.mpr ⟨xin 81 (by decide +kernel), List.forall_mem_cons.mpr ⟨xin 83 (by decide +kernel), List.forall_mem_cons.mpr ⟨xin 85 (by decide +kernel), List.forall_mem_cons.mpr ⟨xin 87 (by decide +kernel), fun w h => absurd h List.not_mem_nil⟩⟩⟩⟩
theorem xcw3 : ∀ w ∈ u_ws "ZoneNet$Line" xT3 3, w ∈ lw_tbl := by
  show ∀ w ∈ [u_lay "ZoneNet$Line" xT3 0, u_lay "ZoneNet$Line" xT3 1, u_lay "ZoneNet$Line" xT3 2], w ∈ lw_tbl
  exact List.forall_mem_cons.mpr ⟨xin 101 (by decide +kernel), List.forall_mem_cons.mpr ⟨xin 103 (by decide +kernel), List.forall_mem_cons.mpr ⟨xin 105 (by decide +kernel), fun w h => absurd h List.not_mem_nil⟩⟩⟩
theorem xcw4 : ∀ w ∈ u_ws "java/lang/String" xT4 2, w ∈ lw_tbl := by
  show ∀ w ∈ [u_lay "java/lang/String" xT4 0, u_lay "java/lang/String" xT4 1], w ∈ lw_tbl
  exact List.forall_mem_cons.mpr ⟨xin 318 (by decide +kernel), List.forall_mem_cons.mpr ⟨xin 320 (by decide +kernel), fun w h => absurd h List.not_mem_nil⟩⟩
theorem xcw5 : ∀ w ∈ u_ws "ZoneNet$Network" xT5 2, w ∈ lw_tbl := by
  show ∀ w ∈ [u_lay "ZoneNet$Network" xT5 0, u_lay "ZoneNet$Network" xT5 1], w ∈ lw_tbl
  exact List.forall_mem_cons.mpr ⟨xin 449 (by decide +kernel), List.forall_mem_cons.mpr ⟨xin 451 (by decide +kernel), fun w h => absurd h List.not_mem_nil⟩⟩
theorem xcw6 : ∀ w ∈ u_ws "ZoneNet$Router" xT6 6, w ∈ lw_tbl := by
  show ∀ w ∈ [u_lay "ZoneNet$Router" xT6 0, u_lay "ZoneNet$Router" xT6 1, u_lay "ZoneNet$Router" xT6 2, u_lay "ZoneNet$Router" xT6 3, u_lay "ZoneNet$Router" xT6 4, u_lay "ZoneNet$Router" xT6 5], w ∈ lw_tbl
  exact List.forall_mem_cons.mpr ⟨xin 524 (by decide +kernel), List.forall_mem_cons.mpr ⟨xin 526 (by decide +kernel), List.forall_mem_cons.mpr ⟨xin 528 (by decide +kernel), List.forall_mem_cons.mpr ⟨xin 530 (by decide +kernel), List.forall_mem_cons.mpr ⟨xin 532 (by decide +kernel), List.forall_mem_cons.mpr ⟨xin 534 (by decide +kernel), fun w h => absurd h List.not_mem_nil⟩⟩⟩⟩⟩⟩
theorem xcw7 : ∀ w ∈ u_ws "ZoneNet$Entry" xT7 7, w ∈ lw_tbl := by
  show ∀ w ∈ [u_lay "ZoneNet$Entry" xT7 0, u_lay "ZoneNet$Entry" xT7 1, u_lay "ZoneNet$Entry" xT7 2, u_lay "ZoneNet$Entry" xT7 3, u_lay "ZoneNet$Entry" xT7 4, u_lay "ZoneNet$Entry" xT7 5, u_lay "ZoneNet$Entry" xT7 6], w ∈ lw_tbl
  exact List.forall_mem_cons.mpr ⟨xin 497 (by decide +kernel), List.forall_mem_cons.mpr ⟨xin 499 (by decide +kernel), List.forall_mem_cons.mpr ⟨xin 501 (by decide +kernel), List.forall_mem_cons.mpr ⟨xin 503 (by decide +kernel), List.forall_mem_cons.mpr ⟨xin 505 (by decide +kernel), List.forall_mem_cons.mpr ⟨xin 507 (by decide +kernel), List.forall_mem_cons.mpr ⟨xin 509 (by decide +kernel), fun w h => absurd h List.not_mem_nil⟩⟩⟩⟩⟩⟩⟩
theorem xcw8 : ∀ w ∈ u_ws "ZoneNet$Pattern" xT8 3, w ∈ lw_tbl := by
  show ∀ w ∈ [u_lay "ZoneNet$Pattern" xT8 0, u_lay "ZoneNet$Pattern" xT8 1, u_lay "ZoneNet$Pattern" xT8 2], w ∈ lw_tbl
  exact List.forall_mem_cons.mpr ⟨xin 622 (by decide +kernel), List.forall_mem_cons.mpr ⟨xin 624 (by decide +kernel), List.forall_mem_cons.mpr ⟨xin 626 (by decide +kernel), fun w h => absurd h List.not_mem_nil⟩⟩⟩
theorem xcw9 : ∀ w ∈ u_ws "ZoneNet$Service" xT9 7, w ∈ lw_tbl := by
  show ∀ w ∈ [u_lay "ZoneNet$Service" xT9 0, u_lay "ZoneNet$Service" xT9 1, u_lay "ZoneNet$Service" xT9 2, u_lay "ZoneNet$Service" xT9 3, u_lay "ZoneNet$Service" xT9 4, u_lay "ZoneNet$Service" xT9 5, u_lay "ZoneNet$Service" xT9 6], w ∈ lw_tbl
  exact List.forall_mem_cons.mpr ⟨xin 715 (by decide +kernel), List.forall_mem_cons.mpr ⟨xin 717 (by decide +kernel), List.forall_mem_cons.mpr ⟨xin 719 (by decide +kernel), List.forall_mem_cons.mpr ⟨xin 721 (by decide +kernel), List.forall_mem_cons.mpr ⟨xin 723 (by decide +kernel), List.forall_mem_cons.mpr ⟨xin 725 (by decide +kernel), List.forall_mem_cons.mpr ⟨xin 727 (by decide +kernel), fun w h => absurd h List.not_mem_nil⟩⟩⟩⟩⟩⟩⟩
theorem xcw10 : ∀ w ∈ u_ws "ZoneNet$Listed" xT10 5, w ∈ lw_tbl := by
  show ∀ w ∈ [u_lay "ZoneNet$Listed" xT10 0, u_lay "ZoneNet$Listed" xT10 1, u_lay "ZoneNet$Listed" xT10 2, u_lay "ZoneNet$Listed" xT10 3, u_lay "ZoneNet$Listed" xT10 4], w ∈ lw_tbl
  exact List.forall_mem_cons.mpr ⟨xin 695 (by decide +kernel), List.forall_mem_cons.mpr ⟨xin 697 (by decide +kernel), List.forall_mem_cons.mpr ⟨xin 699 (by decide +kernel), List.forall_mem_cons.mpr ⟨xin 701 (by decide +kernel), List.forall_mem_cons.mpr ⟨xin 703 (by decide +kernel), fun w h => absurd h List.not_mem_nil⟩⟩⟩⟩⟩
theorem xcw11 : ∀ w ∈ u_ws "ZoneNet$Session" xT11 13, w ∈ lw_tbl := by
  show ∀ w ∈ [u_lay "ZoneNet$Session" xT11 0, u_lay "ZoneNet$Session" xT11 1, u_lay "ZoneNet$Session" xT11 2, u_lay "ZoneNet$Session" xT11 3, u_lay "ZoneNet$Session" xT11 4, u_lay "ZoneNet$Session" xT11 5, u_lay "ZoneNet$Session" xT11 6, u_lay "ZoneNet$Session" xT11 7, u_lay "ZoneNet$Session" xT11 8, u_lay "ZoneNet$Session" xT11 9, u_lay "ZoneNet$Session" xT11 10, u_lay "ZoneNet$Session" xT11 11, u_lay "ZoneNet$Session" xT11 12], w ∈ lw_tbl
  exact List.forall_mem_cons.mpr ⟨xin 880 (by decide +kernel), List.forall_mem_cons.mpr ⟨xin 882 (by decide +kernel), List.forall_mem_cons.mpr ⟨xin 884 (by decide +kernel), List.forall_mem_cons.mpr ⟨xin 886 (by decide +kernel), List.forall_mem_cons.mpr ⟨xin 888 (by decide +kernel), List.forall_mem_cons.mpr ⟨xin 890 (by decide +kernel), List.forall_mem_cons.mpr ⟨xin 892 (by decide +kernel), List.forall_mem_cons.mpr ⟨xin 894 (by decide +kernel), List.forall_mem_cons.mpr ⟨xin 896 (by decide +kernel), List.forall_mem_cons.mpr ⟨xin 898 (by decide +kernel), List.forall_mem_cons.mpr ⟨xin 900 (by decide +kernel), List.forall_mem_cons.mpr ⟨xin 902 (by decide +kernel), List.forall_mem_cons.mpr ⟨xin 904 (by decide +kernel), fun w h => absurd h List.not_mem_nil⟩⟩⟩⟩⟩⟩⟩⟩⟩⟩⟩⟩⟩
theorem xcw12 : ∀ w ∈ u_ws "ZoneNetModel" xT12 49, w ∈ lw_tbl := by
  show ∀ w ∈ [u_lay "ZoneNetModel" xT12 0, u_lay "ZoneNetModel" xT12 1, u_lay "ZoneNetModel" xT12 2, u_lay "ZoneNetModel" xT12 3, u_lay "ZoneNetModel" xT12 4, u_lay "ZoneNetModel" xT12 5, u_lay "ZoneNetModel" xT12 6, u_lay "ZoneNetModel" xT12 7, u_lay "ZoneNetModel" xT12 8, u_lay "ZoneNetModel" xT12 9, u_lay "ZoneNetModel" xT12 10, u_lay "ZoneNetModel" xT12 11, u_lay "ZoneNetModel" xT12 12, u_lay "ZoneNetModel" xT12 13, u_lay "ZoneNetModel" xT12 14, u_lay "ZoneNetModel" xT12 15, u_lay "ZoneNetModel" xT12 16, u_lay "ZoneNetModel" xT12 17, u_lay "ZoneNetModel" xT12 18, u_lay "ZoneNetModel" xT12 19, u_lay "ZoneNetModel" xT12 20, u_lay "ZoneNetModel" xT12 21, u_lay "ZoneNetModel" xT12 22, u_lay "ZoneNetModel" xT12 23, u_lay "ZoneNetModel" xT12 24, u_lay "ZoneNetModel" xT12 25, u_lay "ZoneNetModel" xT12 26, u_lay "ZoneNetModel" xT12 27, u_lay "ZoneNetModel" xT12 28, u_lay "ZoneNetModel" xT12 29, u_lay "ZoneNetModel" xT12 30, u_lay "ZoneNetModel" xT12 31, u_lay "ZoneNetModel" xT12 32, u_lay "ZoneNetModel" xT12 33, u_lay "ZoneNetModel" xT12 34, u_lay "ZoneNetModel" xT12 35, u_lay "ZoneNetModel" xT12 36, u_lay "ZoneNetModel" xT12 37, u_lay "ZoneNetModel" xT12 38, u_lay "ZoneNetModel" xT12 39, u_lay "ZoneNetModel" xT12 40, u_lay "ZoneNetModel" xT12 41, u_lay "ZoneNetModel" xT12 42, u_lay "ZoneNetModel" xT12 43, u_lay "ZoneNetModel" xT12 44, u_lay "ZoneNetModel" xT12 45, u_lay "ZoneNetModel" xT12 46, u_lay "ZoneNetModel" xT12 47, u_lay "ZoneNetModel" xT12 48], w ∈ lw_tbl
  exact List.forall_mem_cons.mpr ⟨xin 1009 (by decide +kernel), List.forall_mem_cons.mpr ⟨xin 1011 (by decide +kernel), List.forall_mem_cons.mpr ⟨xin 1013 (by decide +kernel), List.forall_mem_cons.mpr ⟨xin 1015 (by decide +kernel), List.forall_mem_cons.mpr ⟨xin 1017 (by decide +kernel), List.forall_mem_cons.mpr ⟨xin 1019 (by decide +kernel), List.forall_mem_cons.mpr ⟨xin 1021 (by decide +kernel), List.forall_mem_cons.mpr ⟨xin 1023 (by decide +kernel), List.forall_mem_cons.mpr ⟨xin 1025 (by decide +kernel), List.forall_mem_cons.mpr ⟨xin 1027 (by decide +kernel), List.forall_mem_cons.mpr ⟨xin 1029 (by decide +kernel), List.forall_mem_cons.mpr ⟨xin 1031 (by decide +kernel), List.forall_mem_cons.mpr ⟨xin 1033 (by decide +kernel), List.forall_mem_cons.mpr ⟨xin 1035 (by decide +kernel), List.forall_mem_cons.mpr ⟨xin 1037 (by decide +kernel), List.forall_mem_cons.mpr ⟨xin 1039 (by decide +kernel), List.forall_mem_cons.mpr ⟨xin 1041 (by decide +kernel), List.forall_mem_cons.mpr ⟨xin 1043 (by decide +kernel), List.forall_mem_cons.mpr ⟨xin 1045 (by decide +kernel), List.forall_mem_cons.mpr ⟨xin 1047 (by decide +kernel), List.forall_mem_cons.mpr ⟨xin 1049 (by decide +kernel), List.forall_mem_cons.mpr ⟨xin 1051 (by decide +kernel), List.forall_mem_cons.mpr ⟨xin 1053 (by decide +kernel), List.forall_mem_cons.mpr ⟨xin 1055 (by decide +kernel), List.forall_mem_cons.mpr ⟨xin 1057 (by decide +kernel), List.forall_mem_cons.mpr ⟨xin 1059 (by decide +kernel), List.forall_mem_cons.mpr ⟨xin 1061 (by decide +kernel), List.forall_mem_cons.mpr ⟨xin 1063 (by decide +kernel), List.forall_mem_cons.mpr ⟨xin 1065 (by decide +kernel), List.forall_mem_cons.mpr ⟨xin 1067 (by decide +kernel), List.forall_mem_cons.mpr ⟨xin 1069 (by decide +kernel), List.forall_mem_cons.mpr ⟨xin 1071 (by decide +kernel), List.forall_mem_cons.mpr ⟨xin 1073 (by decide +kernel), List.forall_mem_cons.mpr ⟨xin 1075 (by decide +kernel), List.forall_mem_cons.mpr ⟨xin 1077 (by decide +kernel), List.forall_mem_cons.mpr ⟨xin 1079 (by decide +kernel), List.forall_mem_cons.mpr ⟨xin 1081 (by decide +kernel), List.forall_mem_cons.mpr ⟨xin 1083 (by decide +kernel), List.forall_mem_cons.mpr ⟨xin 1085 (by decide +kernel), List.forall_mem_cons.mpr ⟨xin 1087 (by decide +kernel), List.forall_mem_cons.mpr ⟨xin 1089 (by decide +kernel), List.forall_mem_cons.mpr ⟨xin 1091 (by decide +kernel), List.forall_mem_cons.mpr ⟨xin 1093 (by decide +kernel), List.forall_mem_cons.mpr ⟨xin 1095 (by decide +kernel), List.forall_mem_cons.mpr ⟨xin 1097 (by decide +kernel), List.forall_mem_cons.mpr ⟨xin 1099 (by decide +kernel), List.forall_mem_cons.mpr ⟨xin 1101 (by decide +kernel), List.forall_mem_cons.mpr ⟨xin 1103 (by decide +kernel), List.forall_mem_cons.mpr ⟨xin 1105 (by decide +kernel), fun w h => absurd h List.not_mem_nil⟩⟩⟩⟩⟩⟩⟩⟩⟩⟩⟩⟩⟩⟩⟩⟩⟩⟩⟩⟩⟩⟩⟩⟩⟩⟩⟩⟩⟩⟩⟩⟩⟩⟩⟩⟩⟩⟩⟩⟩⟩⟩⟩⟩⟩⟩⟩⟩⟩
theorem xcl_ws {ci : Nat} {cd : vw_C} (h : xcl[ci]? = some cd) : ∀ w ∈ u_ws cd.1 cd.2.1 cd.2.2, w ∈ lw_tbl := by
  have h2 : ∀ q ∈ xcl, ∀ w ∈ u_ws q.1 q.2.1 q.2.2, w ∈ lw_tbl := List.forall_mem_cons.mpr ⟨xcw0, List.forall_mem_cons.mpr ⟨xcw1, List.forall_mem_cons.mpr ⟨xcw2, List.forall_mem_cons.mpr ⟨xcw3, List.forall_mem_cons.mpr ⟨xcw4, List.forall_mem_cons.mpr ⟨xcw5, List.forall_mem_cons.mpr ⟨xcw6, List.forall_mem_cons.mpr ⟨xcw7, List.forall_mem_cons.mpr ⟨xcw8, List.forall_mem_cons.mpr ⟨xcw9, List.forall_mem_cons.mpr ⟨xcw10, List.forall_mem_cons.mpr ⟨xcw11, List.forall_mem_cons.mpr ⟨xcw12, fun w h => absurd h List.not_mem_nil⟩⟩⟩⟩⟩⟩⟩⟩⟩⟩⟩⟩⟩
  exact h2 cd (List.mem_of_getElem? h)
theorem xcl_tyB : ∀ q ∈ xcl, ∀ k, k < q.2.2 → (parseFieldDescriptor (q.2.1 k).2.2.1).isSome = true := by decide +kernel
theorem xcl_ty {ci k : Nat} {cd : vw_C} (h : xcl[ci]? = some cd) (hk : k < cd.2.2) : ∃ ty, parseFieldDescriptor (cd.2.1 k).2.2.1 = some ty := Option.isSome_iff_exists.mp (xcl_tyB cd (List.mem_of_getElem? h) k hk)
theorem xcl_nmB : ∀ q ∈ xcl, ∀ x, x < q.2.2 → ∀ y, y < q.2.2 → x ≠ y → (q.2.1 x).2.1 ≠ (q.2.1 y).2.1 := by decide +kernel
theorem xcl_nm {ci x y : Nat} {cd : vw_C} (h : xcl[ci]? = some cd) (hx : x < cd.2.2) (hy : y < cd.2.2) (hne : x ≠ y) : (cd.2.1 x).2.1 ≠ (cd.2.1 y).2.1 := xcl_nmB cd (List.mem_of_getElem? h) x hx y hy hne
/-- a new object's fields -/
def xdef (ci : Nat) : List Value := match xcl[ci]? with
  | some cd => (List.range cd.2.2).map (fun k => (parseFieldDescriptor (cd.2.1 k).2.2.1).elim .null defaultValue)
  | none => []
theorem xdef_len {ci : Nat} {cd : vw_C} (h : xcl[ci]? = some cd) : (xdef ci).length = cd.2.2 := by
  unfold xdef
  rw [h]
  simp
theorem xdef_at {ci k : Nat} {cd : vw_C} {v : Value} (h : xcl[ci]? = some cd) (hv : (xdef ci)[k]? = some v) : ∃ ty, k < cd.2.2 ∧ parseFieldDescriptor (cd.2.1 k).2.2.1 = some ty ∧ v = defaultValue ty := by
  have hk : k < cd.2.2 := by
    have := (List.getElem?_eq_some_iff.mp hv).1
    rw [xdef_len h] at this
    exact this
  obtain ⟨ty, hty⟩ := xcl_ty h hk
  refine ⟨ty, hk, hty, ?_⟩
  unfold xdef at hv
  rw [h] at hv
  simp [List.getElem?_map, List.getElem?_range hk, hty] at hv
  exact hv.symm
end
section
/-! THE MACHINE IN SHORT: a judgement XZ that says only: method number, place, locals, stack, memory, room left. A step of it is a function (xstep); that the machine does it is proved once. -/
/-- a cell: an object (number of its class, its fields), or an array (number of its element type, length, contents) -/
abbrev xC : Type := (Nat × List Value) ⊕ (Nat × Nat × (Nat → Value))
abbrev xM : Type := Nat → Option xC
/-- launch, the law's start, the numbers of the classes and slots, the places of the String constants -/
abbrev xE : Type := Launch × State × va_G × (Nat → Nat)
def xput (M : xM) (a : Nat) (c : xC) : xM := fun q => if q = a then some c else M q
theorem xput_same (M : xM) (a : Nat) (c : xC) : xput M a c a = some c := by simp [xput]
theorem xput_ne {M : xM} {a b : Nat} {c : xC} (h : b ≠ a) : xput M a c b = M b := by simp [xput, h]
/-- the class of an array at a place a, of element type t -/
def xarc (E : xE) (a t : Nat) (cls : ClassId) : Prop := ∃ (k : Class) (comp : ClassId), E.2.1.vm.classes[cls]? = some k ∧ k.kind = .array comp (xaty t) ∧ (∀ C, xaty t = .object C → E.2.1.vm.findClass C = some comp) ∧ (E.2.1.heap.size ≤ a → E.2.1.vm.findClass ("[" ++ (xaty t).toString) = some cls)
/-- what stands at a place -/
def xat (E : xE) (a : Nat) (z : xC) (H : Heap) : Prop := ∃ cell : Cell, H[a]? = some cell ∧ cell.vm.isStatics = false ∧ cell.vm ≠ .unknown ∧ (E.2.1.heap.size ≤ a → cell.vm = .none) ∧
  match z with
  | .inl o => ∃ q : vw_C, xcl[o.1]? = some q ∧ cell.cls = E.2.2.1.1 o.1 ∧ o.2.length = q.2.2 ∧ ∀ (k : Nat) (v : Value), o.2[k]? = some v → cell.slots[E.2.2.1.2 o.1 k]? = some v
  | .inr r => xarc E a r.1 cell.cls ∧ cell.slots.size = r.2.1 ∧ (∀ j : Nat, j < r.2.1 → cell.slots[j]? = some (r.2.2 j)) ∧ (E.2.1.heap.size ≤ a → cell = arrV cell.cls r.2.1 r.2.2)
def xrep (E : xE) (M : xM) (H : Heap) : Prop := E.2.1.heap.size ≤ H.size ∧ (∀ q : Nat, q < E.2.1.heap.size → H[q]? = E.2.1.heap[q]?) ∧ ∀ (a : Nat) (z : xC), M a = some z → xat E a z H
theorem xat.kept {E : xE} {a : Nat} {z : xC} {H H1 : Heap} (h : xat E a z H) (hq : H1[a]? = H[a]?) : xat E a z H1 := by
  obtain ⟨cell, h1, h2⟩ := h
  exact ⟨cell, by rw [hq]; exact h1, h2⟩
theorem xat.lt {E : xE} {a : Nat} {z : xC} {H : Heap} (h : xat E a z H) : a < H.size := by
  obtain ⟨cell, h1, -⟩ := h
  exact (Array.getElem?_eq_some_iff.mp h1).1
theorem xrep.put {E : xE} {M : xM} {H H1 : Heap} {a : Nat} {z : xC} (h : xrep E M H) (ha : E.2.1.heap.size ≤ a) (hz : H1.size = H.size) (hq : ∀ q : Nat, q ≠ a → H1[q]? = H[q]?) (hx : xat E a z H1) : xrep E (xput M a z) H1 := by
  refine ⟨by rw [hz]; exact h.1, fun q h1 => ?_, fun b y hb => ?_⟩
  · rw [hq q (by omega)]
    exact h.2.1 q h1
  · by_cases e : b = a
    · subst e
      rw [xput_same] at hb
      cases hb
      exact hx
    · rw [xput_ne e] at hb
      exact (h.2.2 b y hb).kept (hq b e)
theorem xrep.new {E : xE} {M : xM} {H H1 : Heap} {z : xC} (h : xrep E M H) (hz : H1.size = H.size + 1) (hq : ∀ q : Nat, q < H.size → H1[q]? = H[q]?) (hx : xat E H.size z H1) : xrep E (xput M H.size z) H1 := by
  have h0 := h.1
  refine ⟨by omega, fun q h1 => ?_, fun b y hb => ?_⟩
  · rw [hq q (by omega)]
    exact h.2.1 q h1
  · by_cases e : b = H.size
    · subst e
      rw [xput_same] at hb
      cases hb
      exact hx
    · rw [xput_ne e] at hb
      have h3 := h.2.2 b y hb
      exact h3.kept (hq b h3.lt)
/-- locals: a place that is 'none' is not known -/
def xlv (L : List (Option Value)) : List (Nat × Value) := L.zipIdx.filterMap (fun q => q.1.map (fun v => (q.2, v)))
theorem xlv_mem {L : List (Option Value)} {j : Nat} {w : Value} : (j, w) ∈ xlv L ↔ L[j]? = some (some w) := by
  unfold xlv
  rw [List.mem_filterMap]
  constructor
  · rintro ⟨⟨o, i⟩, h1, h2⟩
    rw [List.mem_zipIdx_iff_getElem?] at h1
    cases o with
    | none => simp at h2
    | some v =>
      simp at h2
      obtain ⟨rfl, rfl⟩ := h2
      exact h1
  · intro h
    exact ⟨(some w, j), List.mem_zipIdx_iff_getElem?.mpr h, rfl⟩
def xlr (ls : Array Slot) (L : List (Option Value)) : Prop := lv_has ls L.length (xlv L) ∧ ∀ (j : Nat) (w : Value), L[j]? = some (some w) → w.category = 1
theorem xlr.at {ls : Array Slot} {L : List (Option Value)} {j : Nat} {w : Value} (h : xlr ls L) (hj : L[j]? = some (some w)) : ls[j]? = some (.val w) := h.1.2.2 (j, w) (xlv_mem.mpr hj)
theorem xlr.store {ls : Array Slot} {L : List (Option Value)} {j : Nat} {v : Value} (h : xlr ls L) (hj : j < L.length) (hc : v.category = 1) : ∃ ls', storeLocals ls j v = some ls' ∧ xlr ls' (L.set j (some v)) := by
  obtain ⟨ls', e, h'⟩ := lv_store1 (v := v) h.1 hj hc
  refine ⟨ls', e, ⟨by rw [List.length_set]; exact h'.1, h'.2.1, fun q hq => ?_⟩, fun i w hw => ?_⟩
  · obtain ⟨i, w⟩ := q
    rw [xlv_mem, List.getElem?_set] at hq
    by_cases e1 : j = i
    · subst e1
      rw [if_pos rfl, if_pos hj] at hq
      cases hq
      exact h'.2.2 (j, v) List.mem_cons_self
    · rw [if_neg e1] at hq
      refine h'.2.2 (i, w) (List.mem_cons_of_mem _ (List.mem_filter.mpr ⟨xlv_mem.mpr hq, ?_⟩))
      have hw := h.2 i w hq
      have e2 : ¬ i = j := fun z => e1 z.symm
      simp [e2, hw]
  · rw [List.getElem?_set] at hw
    by_cases e1 : j = i
    · rw [if_pos e1] at hw
      by_cases e2 : j < L.length
      · rw [if_pos e2] at hw
        cases hw
        exact hc
      · rw [if_neg e2] at hw
        cases hw
    · rw [if_neg e1] at hw
      exact h.2 i w hw
/-- fewer locals known -/
theorem xlr.less {ls : Array Slot} {L L' : List (Option Value)} (h : xlr ls L) (hn : L'.length = L.length) (hs : ∀ (j : Nat) (w : Value), L'[j]? = some (some w) → L[j]? = some (some w)) : xlr ls L' :=
  ⟨⟨by rw [hn]; exact h.1.1, h.1.2.1, fun q hq => h.1.2.2 q (by obtain ⟨i, w⟩ := q; exact xlv_mem.mpr (hs i w (xlv_mem.mp hq)))⟩, fun j w hw => h.2 j w (hs j w hw)⟩
/-- a method by its number: name, code, places of its locals, what it answers, frames and words below it, cells and slots that it may make, number of its class -/
def xy (i : Nat) : MethodName := (xm i).1
def xcode (i : Nat) : ByteArray := (xm i).2.1
def xmax (i : Nat) : Nat := (xm i).2.2.1
def xret (i : Nat) : Option FieldType := (xm i).2.2.2.1
def xfr (i : Nat) : Nat := (xm i).2.2.2.2.1
def xlo (i : Nat) : Nat := (xm i).2.2.2.2.2.1
def xmc (i : Nat) : Nat := (xm i).2.2.2.2.2.2.1
def xms (i : Nat) : Nat := (xm i).2.2.2.2.2.2.2.1
def xcn (i : Nat) : Nat := (xm i).2.2.2.2.2.2.2.2
def xrm (i : Nat) : Room := { frames := xfr i, cells := xmc i, slots := xms i, locals := xlo i }
/-- where the law's own cells begin -/
def xb (E : xE) : Nat := E.2.1.heap.size
def xglob (E : xE) : Prop :=
  (∀ w ∈ lw_tbl, w.before #[] E.2.1 = true) ∧ (∀ (ci : Nat) (q : vw_C), xcl[ci]? = some q → u_Kn E.2.1 q.1 q.2.1 q.2.2 (E.2.2.1.1 ci) (E.2.2.1.2 ci)) ∧
  (∀ q ∈ xstr, vk_R q.1 q.2.1 q.2.2.1 (E.2.2.2 q.2.2.2) E.2.1) ∧ (∀ q ∈ xsta, va_Z q.1 q.2.1 q.2.2.1 (.int q.2.2.2) (fun a => E.2.1.heap.size ≤ a) E.2.1 E.2.1.heap) ∧
  va_Zq "jdk/internal/util/Preconditions" "SIOOBE_FORMATTER" "Ljava/util/function/BiFunction;" (fun a => E.2.1.heap.size ≤ a) E.2.1 E.2.1.heap
def xctx (E : xE) (i : Nat) (p : Program) (s : State) (m : MethodId) (meth : Method) (c : Code) : Prop :=
  p.tables.exec = Jvm.exec ∧ c.code = xcode i ∧ c.maxLocals = xmax i ∧ meth.sig.returnType = xret i ∧ meth.locks = false ∧ s.vm.findClass (xy i).cls = some m.cls ∧ meth.name = (xy i).name ∧ E.2.1.WarmedH s.vm
/-- from here the machine comes to Z, whatever lies below and beside -/
def XZ (E : xE) (i : Nat) (Z : List Frame → Array Value → State → State → Prop) (pc : Nat) (L : List (Option Value)) (st : List Value) (M : xM) (nx cb sb : Nat) : Prop :=
  xglob E → ∀ (p : Program) (e : Env) (s : State) (m : MethodId) (args : Array Value) (below : List Frame) (meth : Method) (c : Code) (H : Heap) (locs : List Loc) (cells slots : Nat) (ls : Array Slot),
    xctx E i p s m meth c → xrep E M H → H.size = nx → xlr ls L → L.length = xmax i → cells + cb ≤ xmc i → slots + sb ≤ xms i → (∀ q ∈ locs, E.2.1.heap.size ≤ q.base) →
    W p E.1 e (xrm i) s m args below meth c H locs cells slots (Z below args s) (F0 m pc ls st)
/-- a method's end: its answer and the memory have Q -/
def xZ (E : xE) (i : Nat) (Q : Option Value → xM → Nat → Prop) : List Frame → Array Value → State → State → Prop := fun below args s =>
  MQ below (fun _ _ o t => ∃ (v : Option Value) (M : xM), o = .returned v ∧ xrep E M t.heap ∧ Q v M t.heap.size) args s (xmc i) (xms i) (fun q => E.2.1.heap.size ≤ q)
def xentry (As : List Value) (n : Nat) : List (Option Value) := As.map some ++ List.replicate (n - As.length) none
/-- a call: method i with these arguments at this memory ends with Q -/
def XC (E : xE) (i : Nat) (As : List Value) (M : xM) (nx : Nat) (Q : Option Value → xM → Nat → Prop) : Prop :=
  XZ E i (xZ E i Q) 0 (xentry As (xmax i)) [] M nx (xmc i) (xms i)
/-- rows of instructions: number, a constant, three numbers, the ways of a switch -/
abbrev xI : Type := Nat × Int32 × Nat × Nat × Nat × List (Int32 × Nat)
def xln (len n : Nat) (r : xI) : Option xI := if len = n then some r else none
theorem xln_spec {len n : Nat} {r r' : xI} (h : xln len n r = some r') : len = n ∧ r = r' := by
  unfold xln at h
  by_cases e : len = n
  · rw [if_pos e] at h
    exact ⟨e, Option.some.inj h⟩
  · rw [if_neg e] at h
    cases h
def xt (pc : Nat) (off : Int) : Nat := ((pc : Int) + off).toNat
/-- only where the target is no place before the code's first -/
def xlt (len n : Nat) (pc : Nat) (off : Int) (r : xI) : Option xI := if len = n ∧ 0 ≤ (pc : Int) + off then some r else none
theorem xlt_spec {len n pc : Nat} {off : Int} {r r' : xI} (h : xlt len n pc off r = some r') : len = n ∧ (pc : Int) + off = ((xt pc off : Nat) : Int) ∧ r = r' := by
  unfold xlt at h
  by_cases e : len = n ∧ 0 ≤ (pc : Int) + off
  · rw [if_pos e] at h
    exact ⟨e.1, by unfold xt; omega, Option.some.inj h⟩
  · rw [if_neg e] at h
    cases h
def xI1 (st : List Value) (P : Int32 → List Value → Prop) : Prop := match st with | .int x :: r => P x r | _ => False
def xI2 (st : List Value) (P : Int32 → Int32 → List Value → Prop) : Prop := match st with | .int y :: .int x :: r => P x y r | _ => False
def xV1 (st : List Value) (P : Value → List Value → Prop) : Prop := match st with | v :: r => v.category = 1 ∧ P v r | _ => False
def xV2 (st : List Value) (P : Value → Value → List Value → Prop) : Prop := match st with | v :: w :: r => v.category = 1 ∧ w.category = 1 ∧ P v w r | _ => False
def xV3 (st : List Value) (P : Value → Value → Value → List Value → Prop) : Prop := match st with | v :: w :: u :: r => v.category = 1 ∧ w.category = 1 ∧ u.category = 1 ∧ P v w u r | _ => False
def xA1 (st : List Value) (P : Nat → List Value → Prop) : Prop := match st with | .ref a :: r => P a r | _ => False
/-- a reference or null -/
def xR1 (st : List Value) (P : Option Nat → List Value → Prop) : Prop := match st with | .ref a :: r => P (some a) r | .null :: r => P none r | _ => False
theorem xI1_spec {st : List Value} {P : Int32 → List Value → Prop} (h : xI1 st P) : ∃ x r, st = .int x :: r ∧ P x r := by
  unfold xI1 at h
  split at h
  · exact ⟨_, _, rfl, h⟩
  · exact h.elim
theorem xI2_spec {st : List Value} {P : Int32 → Int32 → List Value → Prop} (h : xI2 st P) : ∃ x y r, st = .int y :: .int x :: r ∧ P x y r := by
  unfold xI2 at h
  split at h
  · exact ⟨_, _, _, rfl, h⟩
  · exact h.elim
theorem xV1_spec {st : List Value} {P : Value → List Value → Prop} (h : xV1 st P) : ∃ v r, st = v :: r ∧ v.category = 1 ∧ P v r := by
  unfold xV1 at h
  split at h
  · exact ⟨_, _, rfl, h⟩
  · exact h.elim
theorem xV2_spec {st : List Value} {P : Value → Value → List Value → Prop} (h : xV2 st P) : ∃ v w r, st = v :: w :: r ∧ v.category = 1 ∧ w.category = 1 ∧ P v w r := by
  unfold xV2 at h
  split at h
  · exact ⟨_, _, _, rfl, h⟩
  · exact h.elim
theorem xV3_spec {st : List Value} {P : Value → Value → Value → List Value → Prop} (h : xV3 st P) : ∃ v w u r, st = v :: w :: u :: r ∧ v.category = 1 ∧ w.category = 1 ∧ u.category = 1 ∧ P v w u r := by
  unfold xV3 at h
  split at h
  · exact ⟨_, _, _, _, rfl, h⟩
  · exact h.elim
theorem xA1_spec {st : List Value} {P : Nat → List Value → Prop} (h : xA1 st P) : ∃ a r, st = .ref a :: r ∧ P a r := by
  unfold xA1 at h
  split at h
  · exact ⟨_, _, rfl, h⟩
  · exact h.elim
theorem xR1_spec {st : List Value} {P : Option Nat → List Value → Prop} (h : xR1 st P) : (∃ a r, st = .ref a :: r ∧ P (some a) r) ∨ ∃ r, st = .null :: r ∧ P none r := by
  unfold xR1 at h
  split at h
  · exact Or.inl ⟨_, _, rfl, h⟩
  · exact Or.inr ⟨_, rfl, h⟩
  · exact h.elim
def xlocI (L : List (Option Value)) (j : Nat) (P : Int32 → Prop) : Prop := match L[j]? with | some (some (.int x)) => P x | _ => False
def xlocA (L : List (Option Value)) (j : Nat) (P : Value → Prop) : Prop := match L[j]? with | some (some (.ref a)) => P (.ref a) | some (some .null) => P .null | _ => False
theorem xlocI_spec {L : List (Option Value)} {j : Nat} {P : Int32 → Prop} (h : xlocI L j P) : ∃ x, L[j]? = some (some (.int x)) ∧ P x := by
  unfold xlocI at h
  split at h
  · exact ⟨_, by assumption, h⟩
  · exact h.elim
theorem xlocA_spec {L : List (Option Value)} {j : Nat} {P : Value → Prop} (h : xlocA L j P) : (∃ a, L[j]? = some (some (.ref a)) ∧ P (.ref a)) ∨ (L[j]? = some (some .null) ∧ P .null) := by
  unfold xlocA at h
  split at h
  · exact Or.inl ⟨_, by assumption, h⟩
  · exact Or.inr ⟨by assumption, h⟩
  · exact h.elim
/-- an object of a class at a place -/
def xobj (M : xM) (a ci : Nat) (P : List Value → Prop) : Prop := match M a with | some (.inl (c, fs)) => c = ci ∧ P fs | _ => False
def xarr (M : xM) (a : Nat) (P : Nat → Nat → (Nat → Value) → Prop) : Prop := match M a with | some (.inr (t, n, f)) => P t n f | _ => False
theorem xobj_spec {M : xM} {a ci : Nat} {P : List Value → Prop} (h : xobj M a ci P) : ∃ fs, M a = some (.inl (ci, fs)) ∧ P fs := by
  unfold xobj at h
  split at h
  · next c fs e =>
    obtain ⟨rfl, h⟩ := h
    exact ⟨fs, e, h⟩
  · exact h.elim
theorem xarr_spec {M : xM} {a : Nat} {P : Nat → Nat → (Nat → Value) → Prop} (h : xarr M a P) : ∃ t n f, M a = some (.inr (t, n, f)) ∧ P t n f := by
  unfold xarr at h
  split at h
  · next t n f e => exact ⟨t, n, f, e, h⟩
  · exact h.elim
def xget (fs : List Value) (k : Nat) (P : Value → Prop) : Prop := match fs[k]? with | some v => P v | none => False
theorem xget_spec {fs : List Value} {k : Nat} {P : Value → Prop} (h : xget fs k P) : ∃ v, fs[k]? = some v ∧ P v := by
  unfold xget at h
  split at h
  · exact ⟨_, by assumption, h⟩
  · exact h.elim
/-- a reference or null, as it stands -/
def xRv (st : List Value) (P : Value → List Value → Prop) : Prop := match st with | .ref a :: r => P (.ref a) r | .null :: r => P .null r | _ => False
def xVA (st : List Value) (P : Value → Nat → List Value → Prop) : Prop := match st with | v :: .ref a :: r => P v a r | _ => False
def xIA (st : List Value) (P : Int32 → Nat → List Value → Prop) : Prop := match st with | .int j :: .ref a :: r => P j a r | _ => False
def xIIA (st : List Value) (P : Int32 → Int32 → Nat → List Value → Prop) : Prop := match st with | .int x :: .int j :: .ref a :: r => P x j a r | _ => False
def xVIA (st : List Value) (P : Value → Int32 → Nat → List Value → Prop) : Prop := match st with | v :: .int j :: .ref a :: r => P v j a r | _ => False
theorem xRv_spec {st : List Value} {P : Value → List Value → Prop} (h : xRv st P) : (∃ a r, st = .ref a :: r ∧ P (.ref a) r) ∨ ∃ r, st = .null :: r ∧ P .null r := by
  unfold xRv at h
  split at h
  · exact Or.inl ⟨_, _, rfl, h⟩
  · exact Or.inr ⟨_, rfl, h⟩
  · exact h.elim
theorem xVA_spec {st : List Value} {P : Value → Nat → List Value → Prop} (h : xVA st P) : ∃ v a r, st = v :: .ref a :: r ∧ P v a r := by
  unfold xVA at h
  split at h
  · exact ⟨_, _, _, rfl, h⟩
  · exact h.elim
theorem xIA_spec {st : List Value} {P : Int32 → Nat → List Value → Prop} (h : xIA st P) : ∃ j a r, st = .int j :: .ref a :: r ∧ P j a r := by
  unfold xIA at h
  split at h
  · exact ⟨_, _, _, rfl, h⟩
  · exact h.elim
theorem xIIA_spec {st : List Value} {P : Int32 → Int32 → Nat → List Value → Prop} (h : xIIA st P) : ∃ x j a r, st = .int x :: .int j :: .ref a :: r ∧ P x j a r := by
  unfold xIIA at h
  split at h
  · exact ⟨_, _, _, _, rfl, h⟩
  · exact h.elim
theorem xVIA_spec {st : List Value} {P : Value → Int32 → Nat → List Value → Prop} (h : xVIA st P) : ∃ v j a r, st = v :: .int j :: .ref a :: r ∧ P v j a r := by
  unfold xVIA at h
  split at h
  · exact ⟨_, _, _, _, rfl, h⟩
  · exact h.elim
/-- the way of a switch -/
def xsw (x : Int32) (d : Nat) (P : Nat → Prop) : List (Int32 × Nat) → Prop
  | [] => P d
  | q :: r => if x = q.1 then P q.2 else xsw x d P r
/-- which values a field of a type takes (0 int, 1 boolean, 2 byte, 3 char, 4 a reference) -/
def xfit (tc : Nat) (v : Value) : Prop := match tc, v with
  | 0, .int _ => True
  | 1, .int x => x = 0 ∨ x = 1
  | 2, .int x => x.toInt8.toInt32 = x
  | 3, .int x => narrow .char (.int x) = .int x
  | 4, .ref _ => True
  | 4, .null => True
  | _, _ => False
/-- the receiver and the arguments of a call -/
def xD (st : List Value) (n : Nat) (P : Nat → List Value → List Value → Prop) : Prop := match st.drop n with | .ref b :: r => P b (st.take n).reverse r | _ => False
def xDs (st : List Value) (n : Nat) (P : List Value → List Value → Prop) : Prop := n ≤ st.length ∧ P (st.take n).reverse (st.drop n)
def xcat1 : List Value → Prop
  | [] => True
  | v :: r => v.category = 1 ∧ xcat1 r
theorem xcat1_spec : ∀ {l : List Value}, xcat1 l → ∀ v ∈ l, v.category = 1
  | [], _, v, h => by cases h
  | w :: r, h, v, hv => by
    rcases List.mem_cons.mp hv with rfl | hv
    · exact h.1
    · exact xcat1_spec h.2 v hv
theorem xD_spec {st : List Value} {n : Nat} {P : Nat → List Value → List Value → Prop} (h : xD st n P) : ∃ b As r, st = As.reverse ++ .ref b :: r ∧ As.length = n ∧ P b As r := by
  unfold xD at h
  split at h
  · next b r e =>
    refine ⟨b, _, r, ?_, ?_, h⟩
    · rw [List.reverse_reverse, ← e, List.take_append_drop]
    · have h1 : (st.drop n).length = r.length + 1 := by rw [e]; rfl
      rw [List.length_drop] at h1
      rw [List.length_reverse, List.length_take]
      omega
  · exact h.elim
theorem xDs_spec {st : List Value} {n : Nat} {P : List Value → List Value → Prop} (h : xDs st n P) : ∃ As r, st = As.reverse ++ r ∧ As.length = n ∧ P As r :=
  ⟨_, _, by rw [List.reverse_reverse, List.take_append_drop], by rw [List.length_reverse, List.length_take]; have := h.1; omega, h.2⟩
def xCp (st : List Value) (P : Int32 → Int32 → Nat → Int32 → Nat → List Value → Prop) : Prop := match st with | .int n :: .int dp :: .ref d :: .int sp :: .ref a :: r => P n dp d sp a r | _ => False
theorem xCp_spec {st : List Value} {P : Int32 → Int32 → Nat → Int32 → Nat → List Value → Prop} (h : xCp st P) : ∃ n dp d sp a r, st = .int n :: .int dp :: .ref d :: .int sp :: .ref a :: r ∧ P n dp d sp a r := by
  unfold xCp at h
  split at h
  · exact ⟨_, _, _, _, _, _, rfl, h⟩
  · exact h.elim
/-- what may be put into an array of references -/
def xastok (M : xM) (t : Nat) (v : Value) : Prop := match v with
  | .null => True
  | .ref b => xobj M b (xaci t) (fun _ => True)
  | _ => False
def xnar (t : Nat) (x : Int32) : Int32 := match t with
  | 1 => x.toInt8.toInt32
  | 2 => x &&& 1
  | 3 => x.toUInt32.toUInt16.toUInt32.toInt32
  | _ => x
/-- ONE STEP -/
def xstep (K KX : Nat → List (Option Value) → List Value → xM → Nat → Nat → Nat → Prop) (Rf : Option Value → xM → Nat → Prop) (E : xE) (pc len : Nat) (L : List (Option Value)) (st : List Value) (M : xM) (nx cb sb : Nat) : xI → Prop
  | (0, v, _, _, _, _) => K (pc + len) L (.int v :: st) M nx cb sb
  | (1, _, j, _, _, _) => xlocI L j fun x => K (pc + len) L (.int x :: st) M nx cb sb
  | (2, _, j, _, _, _) => xlocA L j fun v => K (pc + len) L (v :: st) M nx cb sb
  | (3, _, j, _, _, _) => xI1 st fun x r => j < L.length ∧ K (pc + len) (L.set j (some (.int x))) r M nx cb sb
  | (4, _, j, _, _, _) => xRv st fun v r => j < L.length ∧ K (pc + len) (L.set j (some v)) r M nx cb sb
  | (5, v, j, _, _, _) => xlocI L j fun x => K (pc + len) (L.set j (some (.int (x + v)))) st M nx cb sb
  | (6, _, _, _, _, _) => K (pc + 1) L (.null :: st) M nx cb sb
  | (10, _, _, _, _, _) => xI2 st fun x y r => K (pc + 1) L (.int (x + y) :: r) M nx cb sb
  | (11, _, _, _, _, _) => xI2 st fun x y r => K (pc + 1) L (.int (x - y) :: r) M nx cb sb
  | (12, _, _, _, _, _) => xI2 st fun x y r => K (pc + 1) L (.int (x * y) :: r) M nx cb sb
  | (13, _, _, _, _, _) => xI2 st fun x y r => K (pc + 1) L (.int (x &&& y) :: r) M nx cb sb
  | (14, _, _, _, _, _) => xI2 st fun x y r => K (pc + 1) L (.int (x ||| y) :: r) M nx cb sb
  | (15, _, _, _, _, _) => xI2 st fun x y r => K (pc + 1) L (.int (x ^^^ y) :: r) M nx cb sb
  | (16, _, _, _, _, _) => xI2 st fun x y r => K (pc + 1) L (.int (x <<< (y &&& 31)) :: r) M nx cb sb
  | (17, _, _, _, _, _) => xI2 st fun x y r => K (pc + 1) L (.int (x >>> (y &&& 31)) :: r) M nx cb sb
  | (18, _, _, _, _, _) => xI2 st fun x y r => K (pc + 1) L (.int (x.toUInt32 >>> (y.toUInt32 &&& Int32.toUInt32 31)).toInt32 :: r) M nx cb sb
  | (19, _, _, _, _, _) => xI2 st fun x y r => ¬ y = 0 ∧ K (pc + 1) L (.int (x / y) :: r) M nx cb sb
  | (20, _, _, _, _, _) => xI2 st fun x y r => ¬ y = 0 ∧ K (pc + 1) L (.int (x - x / y * y) :: r) M nx cb sb
  | (21, _, _, _, _, _) => xI1 st fun x r => K (pc + 1) L (.int (-x) :: r) M nx cb sb
  | (22, _, _, _, _, _) => xI1 st fun x r => K (pc + 1) L (.int x.toInt8.toInt32 :: r) M nx cb sb
  | (23, _, _, _, _, _) => xI1 st fun x r => K (pc + 1) L (.int x.toInt16.toInt32 :: r) M nx cb sb
  | (24, _, _, _, _, _) => xI1 st fun x r => K (pc + 1) L (.int (x.toUInt32 % 65536).toInt32 :: r) M nx cb sb
  | (25, _, _, _, _, _) => xV1 st fun v r => K (pc + 1) L (v :: v :: r) M nx cb sb
  | (26, _, _, _, _, _) => xV1 st fun _ r => K (pc + 1) L r M nx cb sb
  | (27, _, _, _, _, _) => xV2 st fun v w r => K (pc + 1) L (v :: w :: v :: r) M nx cb sb
  | (28, _, _, _, _, _) => xV3 st fun v w u r => K (pc + 1) L (v :: w :: u :: v :: r) M nx cb sb
  | (29, _, _, _, _, _) => xV2 st fun v w r => K (pc + 1) L (v :: w :: v :: w :: r) M nx cb sb
  | (30, _, a, _, _, _) => xI1 st fun x r => if x = 0 then K a L r M nx cb sb else K (pc + 3) L r M nx cb sb
  | (31, _, a, _, _, _) => xI1 st fun x r => if x = 0 then K (pc + 3) L r M nx cb sb else K a L r M nx cb sb
  | (32, _, a, _, _, _) => xI1 st fun x r => if x < 0 then K a L r M nx cb sb else K (pc + 3) L r M nx cb sb
  | (33, _, a, _, _, _) => xI1 st fun x r => if 0 ≤ x then K a L r M nx cb sb else K (pc + 3) L r M nx cb sb
  | (34, _, a, _, _, _) => xI1 st fun x r => if 0 < x then K a L r M nx cb sb else K (pc + 3) L r M nx cb sb
  | (35, _, a, _, _, _) => xI1 st fun x r => if x ≤ 0 then K a L r M nx cb sb else K (pc + 3) L r M nx cb sb
  | (36, _, a, _, _, _) => xI2 st fun x y r => if x = y then K a L r M nx cb sb else K (pc + 3) L r M nx cb sb
  | (37, _, a, _, _, _) => xI2 st fun x y r => if x = y then K (pc + 3) L r M nx cb sb else K a L r M nx cb sb
  | (38, _, a, _, _, _) => xI2 st fun x y r => if x < y then K a L r M nx cb sb else K (pc + 3) L r M nx cb sb
  | (39, _, a, _, _, _) => xI2 st fun x y r => if y ≤ x then K a L r M nx cb sb else K (pc + 3) L r M nx cb sb
  | (40, _, a, _, _, _) => xI2 st fun x y r => if y < x then K a L r M nx cb sb else K (pc + 3) L r M nx cb sb
  | (41, _, a, _, _, _) => xI2 st fun x y r => if x ≤ y then K a L r M nx cb sb else K (pc + 3) L r M nx cb sb
  | (42, _, a, _, _, _) => xR1 st fun o r => if o = none then K a L r M nx cb sb else K (pc + 3) L r M nx cb sb
  | (43, _, a, _, _, _) => xR1 st fun o r => if o = none then K (pc + 3) L r M nx cb sb else K a L r M nx cb sb
  | (44, _, a, _, _, _) => xR1 st fun y s => xR1 s fun x r => if x = y then K a L r M nx cb sb else K (pc + 3) L r M nx cb sb
  | (45, _, a, _, _, _) => xR1 st fun y s => xR1 s fun x r => if x = y then K (pc + 3) L r M nx cb sb else K a L r M nx cb sb
  | (46, _, a, _, _, _) => K a L st M nx cb sb
  | (47, _, a, _, _, sw) => xI1 st fun x r => xsw x a (fun t => K t L r M nx cb sb) sw
  | (50, _, ci, k, _, _) => xA1 st fun a r => xobj M a ci fun fs => xget fs k fun v => K (pc + 3) L (v :: r) M nx cb sb
  | (51, _, ci, k, tc, _) => xVA st fun v a r => xb E ≤ a ∧ xfit tc v ∧ xobj M a ci fun fs => k < fs.length ∧ K (pc + 3) L r (xput M a (.inl (ci, fs.set k v))) nx cb sb
  | (52, v, _, _, _, _) => K (pc + 3) L (.int v :: st) M nx cb sb
  | (53, _, ci, n, _, _) => 1 ≤ cb ∧ n ≤ sb ∧ K (pc + 3) L (.ref nx :: st) (xput M nx (.inl (ci, xdef ci))) (nx + 1) (cb - 1) (sb - n)
  | (54, _, ti, _, _, _) => xI1 st fun n r => ¬ n < 0 ∧ n.toNatClampNeg ≤ 1000000 ∧ 1 ≤ cb ∧ n.toNatClampNeg ≤ sb ∧ K (pc + 2) L (.ref nx :: r) (xput M nx (.inr (ti, n.toNatClampNeg, fun _ => .int 0))) (nx + 1) (cb - 1) (sb - n.toNatClampNeg)
  | (55, _, ti, _, _, _) => xI1 st fun n r => ¬ n < 0 ∧ n.toNatClampNeg ≤ 1000000 ∧ 1 ≤ cb ∧ n.toNatClampNeg ≤ sb ∧ K (pc + 3) L (.ref nx :: r) (xput M nx (.inr (ti, n.toNatClampNeg, fun _ => .null))) (nx + 1) (cb - 1) (sb - n.toNatClampNeg)
  | (56, _, _, _, _, _) => xA1 st fun a r => xarr M a fun _ n _ => K (pc + 1) L (.int (Int32.ofNat n) :: r) M nx cb sb
  | (57, _, lo, hi, _, _) => xIA st fun j a r => xarr M a fun t n f => (lo ≤ t ∧ t ≤ hi) ∧ ¬ j < 0 ∧ j.toNatClampNeg < n ∧ K (pc + 1) L (f j.toNatClampNeg :: r) M nx cb sb
  | (58, _, lo, hi, _, _) => xIIA st fun x j a r => xb E ≤ a ∧ xarr M a fun t n f => (lo ≤ t ∧ t ≤ hi) ∧ ¬ j < 0 ∧ j.toNatClampNeg < n ∧ K (pc + 1) L r (xput M a (.inr (t, n, updV f j.toNatClampNeg (.int (xnar t x))))) nx cb sb
  | (59, _, _, _, _, _) => xVIA st fun v j a r => xb E ≤ a ∧ xarr M a fun t n f => 4 ≤ t ∧ ¬ j < 0 ∧ j.toNatClampNeg < n ∧ xastok M t v ∧ K (pc + 1) L r (xput M a (.inr (t, n, updV f j.toNatClampNeg v))) nx cb sb
  | (60, _, n, _, _, _) => K (pc + len) L (.ref (E.2.2.2 n) :: st) M nx cb sb
  | (61, _, ci, _, _, _) => xA1 st fun a r => xobj M a ci fun _ => K (pc + 3) L (.int 1 :: r) M nx cb sb
  | (62, _, ci, _, _, _) => xA1 st fun a r => xobj M a ci fun _ => K (pc + 3) L (.ref a :: r) M nx cb sb
  | (63, _, _, _, _, _) => ∀ o : Option Nat, K (pc + 3) L (va_rf o :: st) M nx cb sb
  | (70, _, j, n, ci, _) => xD st n fun b As r => xobj M b ci (fun _ => True) ∧ xcat1 As ∧ r.length ≤ 4 ∧ xmc j ≤ cb ∧ xms j ≤ sb ∧ XC E j (.ref b :: As) M nx (fun v M' nx' => KX (pc + 3) L (v.toList ++ r) M' nx' (cb - xmc j) (sb - xms j))
  | (71, _, j, n, _, _) => xDs st n fun As r => xcat1 As ∧ r.length ≤ 4 ∧ xmc j ≤ cb ∧ xms j ≤ sb ∧ XC E j As M nx (fun v M' nx' => KX (pc + 3) L (v.toList ++ r) M' nx' (cb - xmc j) (sb - xms j))
  | (72, _, j, n, _, _) => xD st n fun b As r => xcat1 As ∧ r.length ≤ 4 ∧ xmc j ≤ cb ∧ xms j ≤ sb ∧ XC E j (.ref b :: As) M nx (fun v M' nx' => KX (pc + 3) L (v.toList ++ r) M' nx' (cb - xmc j) (sb - xms j))
  | (75, _, j, n, ci, _) => xD st n fun b As r => xobj M b ci (fun _ => True) ∧ xcat1 As ∧ r.length ≤ 4 ∧ xmc j ≤ cb ∧ xms j ≤ sb ∧ XC E j (.ref b :: As) M nx (fun v M' nx' => KX (pc + 3) L (v.toList ++ r) M' nx' (cb - xmc j) (sb - xms j))
  | (73, _, _, _, _, _) => xA1 st fun _ r => r.length ≤ 4 ∧ K (pc + 3) L r M nx cb sb
  | (76, _, j, n, ci, _) => xD st n fun b As r => xobj M b ci (fun _ => True) ∧ xcat1 As ∧ r.length ≤ 4 ∧ xmc j ≤ cb ∧ xms j ≤ sb ∧ XC E j (.ref b :: As) M nx (fun v M' nx' => KX (pc + 3) L (v.toList ++ r) M' nx' (cb - xmc j) (sb - xms j))
  | (77, _, _, _, _, _) => xI2 st fun x y r => r.length ≤ 4 ∧ K (pc + 3) L (.int (if x < y then y else x) :: r) M nx cb sb
  | (78, _, _, _, _, _) => xI2 st fun x y r => r.length ≤ 4 ∧ K (pc + 3) L (.int (if y < x then y else x) :: r) M nx cb sb
  | (79, _, _, _, _, _) => xCp st fun n dp d sp a r => r.length ≤ 4 ∧ xb E ≤ d ∧ (¬ sp < 0 ∧ ¬ dp < 0 ∧ ¬ n < 0) ∧ xarr M a fun t0 n0 f => xarr M d fun t1 n1 g => t0 = 1 ∧ t1 = 1 ∧ sp.toNatClampNeg + n.toNatClampNeg ≤ n0 ∧ dp.toNatClampNeg + n.toNatClampNeg ≤ n1 ∧ (∀ q : Nat, q < n.toNatClampNeg → fits .byte (f (sp.toNatClampNeg + q)) = true) ∧ K (pc + 3) L r (xput M d (.inr (1, n1, va_cpy f g sp.toNatClampNeg dp.toNatClampNeg n.toNatClampNeg))) nx cb sb
  | (80, _, _, _, _, _) => xA1 st fun a r => r.length ≤ 4 ∧ xb E ≤ a ∧ xarr M a fun t n f => t = 1 ∧ 1 ≤ cb ∧ n ≤ sb ∧ (∀ q : Nat, q < n → fits .byte (f q) = true) ∧ K (pc + 3) L (.ref nx :: r) (xput M nx (.inr (1, n, f))) (nx + 1) (cb - 1) (sb - n)
  | (81, _, _, _, _, _) => xA1 st fun a r => xb E ≤ a ∧ xarr M a fun t _ _ => t = 1 ∧ K (pc + 3) L (.ref a :: r) M nx cb sb
  | (90, _, tc, _, _, _) => xI1 st fun x r => r = [] ∧ xfit tc (.int x) ∧ Rf (some (.int x)) M nx
  | (91, _, _, _, _, _) => xRv st fun v r => r = [] ∧ Rf (some v) M nx
  | (92, _, _, _, _, _) => st = [] ∧ Rf none M nx
  | _ => False
/-- the ways of a table switch -/
def xts (pc : Nat) (lo : Int) (offs : List Int) : List (Int32 × Nat) := offs.zipIdx.map (fun q => (Int32.ofInt (lo + (q.2 : Int)), xt pc q.1))
theorem xts_mem {pc : Nat} {lo : Int} {offs : List Int} {q : Int32 × Nat} (h : q ∈ xts pc lo offs) : ∃ (k : Nat) (off : Int), offs[k]? = some off ∧ q = (Int32.ofInt (lo + (k : Int)), xt pc off) := by
  obtain ⟨⟨off, k⟩, h1, rfl⟩ := List.mem_map.mp h
  exact ⟨k, off, List.mem_zipIdx_iff_getElem?.mp h1, rfl⟩
theorem xts_in {pc : Nat} {lo : Int} {offs : List Int} {k : Nat} {off : Int} (h : offs[k]? = some off) : (Int32.ofInt (lo + (k : Int)), xt pc off) ∈ xts pc lo offs :=
  List.mem_map.mpr ⟨(off, k), List.mem_zipIdx_iff_getElem?.mpr h, rfl⟩
def xtsOk (pc : Nat) (d lo hi : Int) (offs : Array Int) : Bool := decide (-2147483648 ≤ lo) && decide (hi ≤ 2147483647) && decide (hi - lo + 1 = (offs.size : Int)) && decide (0 ≤ (pc : Int) + d) && offs.toList.all (fun o => decide (0 ≤ (pc : Int) + o))
theorem xtsOk_spec {pc : Nat} {d lo hi : Int} {offs : Array Int} (h : xtsOk pc d lo hi offs = true) : -2147483648 ≤ lo ∧ hi ≤ 2147483647 ∧ hi - lo + 1 = (offs.size : Int) ∧ (pc : Int) + d = ((xt pc d : Nat) : Int) ∧ ∀ (k : Nat) (off : Int), offs[k]? = some off → (pc : Int) + off = ((xt pc off : Nat) : Int) := by
  unfold xtsOk at h
  simp only [Bool.and_eq_true, decide_eq_true_eq, List.all_eq_true] at h
  obtain ⟨⟨⟨⟨h1, h2⟩, h3⟩, h4⟩, h5⟩ := h
  refine ⟨h1, h2, h3, by unfold xt; omega, fun k off hk => ?_⟩
  have h6 := h5 off (List.mem_of_getElem? (by rw [Array.getElem?_toList]; exact hk))
  unfold xt
  omega
/-- a type's number where it is an int's kind -/
def xtc : Option FieldType → Option Nat
  | some .int => some 0
  | some .boolean => some 1
  | some .byte => some 2
  | some .char => some 3
  | _ => none
def xretA : Option FieldType → Bool
  | some (.object _) => true
  | some (.array _) => true
  | _ => false
end
section
/-! links: what an index into a class's pool stands for -/
abbrev xLk : Type := Nat × Nat × Nat × xI
def xfld (own : String) (idx ci k : Nat) : Prop := ∃ (cd : vw_C) (ref : String), xcl[ci]? = some cd ∧ k < cd.2.2 ∧ (ref = (cd.2.1 k).1 ∨ Cond.sameField ref (cd.2.1 k).1 (cd.2.1 k).2.1 (cd.2.1 k).2.2.1 ∈ lw_tbl) ∧
  (Cond.fieldLink own idx ref (cd.2.1 k).2.1 (cd.2.1 k).2.2.1 ∈ lw_tbl ∨ ∃ host, Cond.fieldLinkNest own idx ref (cd.2.1 k).2.1 (cd.2.1 k).2.2.1 host ∈ lw_tbl)
def xtcT : FieldType → Nat
  | .int => 0
  | .boolean => 1
  | .byte => 2
  | .char => 3
  | .object _ => 4
  | .array _ => 4
  | _ => 9
def xwr (own : String) (ci k tc : Nat) (fin : Bool) : Prop := ∃ (cd : vw_C) (ty : FieldType), xcl[ci]? = some cd ∧ (cd.2.1 k).2.2.2 = fin ∧ (fin = true → (cd.2.1 k).1 = own) ∧ parseFieldDescriptor (cd.2.1 k).2.2.1 = some ty ∧ xtcT ty = tc
/-- what every call needs -/
def xcallee (j n : Nat) : Prop := Cond.code (xy j) (xcode j) (xmax j) (xret j) ∈ lw_tbl ∧ Cond.initialized (xy j).cls ∈ lw_tbl ∧ ((xy j).cls ≠ "java/lang/invoke/MethodHandle" ∧ (xy j).cls ≠ "java/lang/invoke/VarHandle" ∧ (parseMethodDescriptor (xy j).desc).map (fun d => d.parameters.length) = some n) ∧ plainName (xy j).cls = true
def xlok (q : xLk) : Prop := match q with
  | (cn, idx, 50, row) => ∃ ci k, row = (50, 0, ci, k, 0, []) ∧ xfld (xown cn) idx ci k
  | (cn, idx, 51, row) => ∃ ci k tc, row = (51, 0, ci, k, tc, []) ∧ xfld (xown cn) idx ci k ∧ xwr (xown cn) ci k tc false
  | (cn, idx, 151, row) => ∃ ci k tc, row = (51, 0, ci, k, tc, []) ∧ xfld (xown cn) idx ci k ∧ xwr (xown cn) ci k tc true
  | (cn, idx, 52, row) => ∃ (v : Int32) (C n d : String), row = (52, v, 0, 0, 0, []) ∧ (C, n, d, v) ∈ xsta ∧ (Cond.fieldLink (xown cn) idx C n d ∈ lw_tbl)
  | (cn, idx, 53, row) => ∃ ci n cd, row = (53, 0, ci, n, 0, []) ∧ xcl[ci]? = some cd ∧ Cond.classLink (xown cn) idx cd.1 ∈ lw_tbl ∧ Cond.instantiable cd.1 n ∈ lw_tbl ∧ Cond.initialized cd.1 ∈ lw_tbl
  | (cn, idx, 55, row) => ∃ t cd, row = (55, 0, t, 0, 0, []) ∧ 4 ≤ t ∧ xcl[xaci t]? = some cd ∧ Cond.classLink (xown cn) idx cd.1 ∈ lw_tbl ∧ Cond.arrayOver (.object cd.1) ∈ lw_tbl
  | (cn, idx, 60, row) => (∃ n tx, row = (60, 0, n, 0, 0, []) ∧ (xown cn, idx, tx, n) ∈ xstr) ∨ ∃ v : Int32, row = (0, v, 0, 0, 0, []) ∧ Cond.constant (xown cn) idx v ∈ lw_tbl
  | (cn, idx, 61, row) => ∃ ci cd, row = (61, 0, ci, 0, 0, []) ∧ xcl[ci]? = some cd ∧ Cond.classLink (xown cn) idx cd.1 ∈ lw_tbl
  | (cn, idx, 62, row) => ∃ ci cd, row = (62, 0, ci, 0, 0, []) ∧ xcl[ci]? = some cd ∧ Cond.classLink (xown cn) idx cd.1 ∈ lw_tbl
  | (cn, idx, 70, row) => ∃ j n ci cd, row = (70, 0, j, n, ci, []) ∧ xcl[ci]? = some cd ∧ xcallee j n ∧ Cond.instanceMethod (xy j) ∈ lw_tbl ∧ (Cond.selects cd.1 (xy j) (xy j) ∈ lw_tbl ∨ ∃ nn, Cond.instantiable cd.1 nn ∈ lw_tbl ∧ Cond.sameMethod (xy j).cls (xy j).cls (xy j).name (xy j).desc ∈ lw_tbl ∧ Cond.privateMethod (xy j) ∈ lw_tbl) ∧ (Cond.methodLink (xown cn) idx (xy j) ∈ lw_tbl ∨ ∃ host, Cond.methodLinkNest (xown cn) idx (xy j) host ∈ lw_tbl)
  | (cn, idx, 71, row) => ∃ j n, row = (71, 0, j, n, 0, []) ∧ xcallee j n ∧ Cond.static (xy j) ∈ lw_tbl ∧ (Cond.methodLink (xown cn) idx (xy j) ∈ lw_tbl ∨ ∃ host, Cond.methodLinkNest (xown cn) idx (xy j) host ∈ lw_tbl)
  | (cn, idx, 72, row) => (row = (73, 0, 0, 0, 0, []) ∧ Cond.methodLink (xown cn) idx Lib.objectInit ∈ lw_tbl ∧ Cond.instanceMethod Lib.objectInit ∈ lw_tbl ∧ Cond.code Lib.objectInit ⟨#[0xb1]⟩ 1 none ∈ lw_tbl) ∨
      ∃ j n, row = (72, 0, j, n, 0, []) ∧ xcallee j n ∧ (xy j).name = "<init>" ∧ xret j = none ∧ Cond.instanceMethod (xy j) ∈ lw_tbl ∧ (Cond.methodLink (xown cn) idx (xy j) ∈ lw_tbl ∨ ∃ host, Cond.methodLinkNest (xown cn) idx (xy j) host ∈ lw_tbl)
  | (cn, idx, 152, row) => row = (63, 0, 0, 0, 0, []) ∧ Cond.fieldLink (xown cn) idx "jdk/internal/util/Preconditions" "SIOOBE_FORMATTER" "Ljava/util/function/BiFunction;" ∈ lw_tbl
  | (cn, idx, 172, row) => ∃ j n ci cd, row = (75, 0, j, n, ci, []) ∧ xcl[ci]? = some cd ∧ xcallee j n ∧ (xy j).name ≠ "<init>" ∧ Cond.methodLink (xown cn) idx (xy j) ∈ lw_tbl ∧ Cond.sameMethod (xy j).cls (xy j).cls (xy j).name (xy j).desc ∈ lw_tbl ∧ Cond.superclass (xown cn) (xy j).cls ∈ lw_tbl ∧ Cond.instanceMethod (xy j) ∈ lw_tbl
  | (cn, idx, 170, row) => ∃ j n ci cd x b0 m0 r0, row = (76, 0, j, n, ci, []) ∧ xcl[ci]? = some cd ∧ xcallee j n ∧ Cond.methodLink (xown cn) idx x ∈ lw_tbl ∧ Cond.sameMethod x.cls x.cls x.name x.desc ∈ lw_tbl ∧ Cond.instanceMethod x ∈ lw_tbl ∧ Cond.code x b0 m0 r0 ∈ lw_tbl ∧ Cond.selects cd.1 x (xy j) ∈ lw_tbl ∧ Cond.instanceMethod (xy j) ∈ lw_tbl ∧ (x.cls ≠ "java/lang/invoke/MethodHandle" ∧ x.cls ≠ "java/lang/invoke/VarHandle") ∧ (parseMethodDescriptor x.desc).map (fun d => d.parameters.length) = some n
  | (cn, idx, 171, row) => (row = (77, 0, 0, 0, 0, []) ∧ Cond.methodLink (xown cn) idx Lib.Math.max.name ∈ lw_tbl ∧ Cond.static Lib.Math.max.name ∈ lw_tbl ∧ Cond.initialized "java/lang/Math" ∈ lw_tbl ∧ Cond.code Lib.Math.max.name Lib.Math.max.code 2 (some .int) ∈ lw_tbl) ∨
      (row = (78, 0, 0, 0, 0, []) ∧ Cond.methodLink (xown cn) idx Lib.Math.min.name ∈ lw_tbl ∧ Cond.static Lib.Math.min.name ∈ lw_tbl ∧ Cond.initialized "java/lang/Math" ∈ lw_tbl ∧ Cond.code Lib.Math.min.name Lib.Math.min.code 2 (some .int) ∈ lw_tbl) ∨
      (row = (79, 0, 0, 0, 0, []) ∧ Cond.methodLink (xown cn) idx arraycopyName ∈ lw_tbl ∧ Cond.native arraycopyName ∈ lw_tbl ∧ Cond.static arraycopyName ∈ lw_tbl ∧ Cond.initialized "java/lang/System" ∈ lw_tbl)
  | (cn, idx, 180, row) => row = (80, 0, 0, 0, 0, []) ∧ Cond.methodLink (xown cn) idx ⟨"[B", "clone", "()Ljava/lang/Object;"⟩ ∈ lw_tbl ∧ Cond.sameMethod "[B" "java/lang/Object" "clone" "()Ljava/lang/Object;" ∈ lw_tbl ∧ Cond.native ⟨"java/lang/Object", "clone", "()Ljava/lang/Object;"⟩ ∈ lw_tbl ∧ Cond.instanceMethod ⟨"java/lang/Object", "clone", "()Ljava/lang/Object;"⟩ ∈ lw_tbl ∧ Cond.selects "[B" ⟨"[B", "clone", "()Ljava/lang/Object;"⟩ ⟨"java/lang/Object", "clone", "()Ljava/lang/Object;"⟩ ∈ lw_tbl ∧ Cond.castable "[B" "java/lang/Cloneable" ∈ lw_tbl
  | (cn, idx, 162, row) => row = (81, 0, 0, 0, 0, []) ∧ Cond.classLink (xown cn) idx "[B" ∈ lw_tbl
  | _ => True
theorem xsel (y : MethodName) (n : Nat) (h : (y, n) ∈ lw_privs) : Cond.selects y.cls y y ∈ lw_tbl := List.mem_append_left _ (List.mem_map.mpr ⟨(y, n), h, rfl⟩)
theorem xce1 : xcallee 1 2 := ⟨xin 953 (by decide +kernel), xin 0 (by decide +kernel), by decide +kernel, by decide +kernel⟩
theorem xce2 : xcallee 2 3 := ⟨xin 29 (by decide +kernel), xin 1 (by decide +kernel), by decide +kernel, by decide +kernel⟩
theorem xce3 : xcallee 3 1 := ⟨xin 162 (by decide +kernel), xin 1 (by decide +kernel), by decide +kernel, by decide +kernel⟩
theorem xce4 : xcallee 4 0 := ⟨xin 268 (by decide +kernel), xin 1 (by decide +kernel), by decide +kernel, by decide +kernel⟩
theorem xce5 : xcallee 5 1 := ⟨xin 458 (by decide +kernel), xin 1 (by decide +kernel), by decide +kernel, by decide +kernel⟩
theorem xce6 : xcallee 6 2 := ⟨xin 552 (by decide +kernel), xin 1 (by decide +kernel), by decide +kernel, by decide +kernel⟩
theorem xce7 : xcallee 7 2 := ⟨xin 561 (by decide +kernel), xin 1 (by decide +kernel), by decide +kernel, by decide +kernel⟩
theorem xce8 : xcallee 8 1 := ⟨xin 573 (by decide +kernel), xin 1 (by decide +kernel), by decide +kernel, by decide +kernel⟩
theorem xce9 : xcallee 9 1 := ⟨xin 733 (by decide +kernel), xin 1 (by decide +kernel), by decide +kernel, by decide +kernel⟩
theorem xce10 : xcallee 10 1 := ⟨xin 741 (by decide +kernel), xin 1 (by decide +kernel), by decide +kernel, by decide +kernel⟩
theorem xce11 : xcallee 11 1 := ⟨xin 753 (by decide +kernel), xin 1 (by decide +kernel), by decide +kernel, by decide +kernel⟩
theorem xce12 : xcallee 12 0 := ⟨xin 757 (by decide +kernel), xin 1 (by decide +kernel), by decide +kernel, by decide +kernel⟩
theorem xce13 : xcallee 13 2 := ⟨xin 836 (by decide +kernel), xin 1 (by decide +kernel), by decide +kernel, by decide +kernel⟩
theorem xce14 : xcallee 14 2 := ⟨xin 845 (by decide +kernel), xin 1 (by decide +kernel), by decide +kernel, by decide +kernel⟩
theorem xce15 : xcallee 15 2 := ⟨xin 850 (by decide +kernel), xin 1 (by decide +kernel), by decide +kernel, by decide +kernel⟩
theorem xce16 : xcallee 16 4 := ⟨xin 910 (by decide +kernel), xin 1 (by decide +kernel), by decide +kernel, by decide +kernel⟩
theorem xce17 : xcallee 17 1 := ⟨xin 922 (by decide +kernel), xin 1 (by decide +kernel), by decide +kernel, by decide +kernel⟩
theorem xce18 : xcallee 18 1 := ⟨xin 926 (by decide +kernel), xin 1 (by decide +kernel), by decide +kernel, by decide +kernel⟩
theorem xce19 : xcallee 19 1 := ⟨xin 930 (by decide +kernel), xin 1 (by decide +kernel), by decide +kernel, by decide +kernel⟩
theorem xce20 : xcallee 20 2 := ⟨xin 934 (by decide +kernel), xin 1 (by decide +kernel), by decide +kernel, by decide +kernel⟩
theorem xce21 : xcallee 21 1 := ⟨xin 946 (by decide +kernel), xin 1 (by decide +kernel), by decide +kernel, by decide +kernel⟩
theorem xce22 : xcallee 22 0 := ⟨xin 950 (by decide +kernel), xin 1 (by decide +kernel), by decide +kernel, by decide +kernel⟩
theorem xce23 : xcallee 23 0 := ⟨xin 272 (by decide +kernel), xin 1 (by decide +kernel), by decide +kernel, by decide +kernel⟩
theorem xce24 : xcallee 24 3 := ⟨xin 636 (by decide +kernel), xin 1 (by decide +kernel), by decide +kernel, by decide +kernel⟩
theorem xce25 : xcallee 25 1 := ⟨xin 737 (by decide +kernel), xin 1 (by decide +kernel), by decide +kernel, by decide +kernel⟩
theorem xce26 : xcallee 26 0 := ⟨xin 794 (by decide +kernel), xin 1 (by decide +kernel), by decide +kernel, by decide +kernel⟩
theorem xce27 : xcallee 27 0 := ⟨xin 802 (by decide +kernel), xin 1 (by decide +kernel), by decide +kernel, by decide +kernel⟩
theorem xce28 : xcallee 28 0 := ⟨xin 811 (by decide +kernel), xin 1 (by decide +kernel), by decide +kernel, by decide +kernel⟩
theorem xce29 : xcallee 29 1 := ⟨xin 914 (by decide +kernel), xin 1 (by decide +kernel), by decide +kernel, by decide +kernel⟩
theorem xce30 : xcallee 30 1 := ⟨xin 815 (by decide +kernel), xin 1 (by decide +kernel), by decide +kernel, by decide +kernel⟩
theorem xce31 : xcallee 31 1 := ⟨xin 832 (by decide +kernel), xin 1 (by decide +kernel), by decide +kernel, by decide +kernel⟩
theorem xce32 : xcallee 32 0 := ⟨xin 70 (by decide +kernel), xin 6 (by decide +kernel), by decide +kernel, by decide +kernel⟩
theorem xce33 : xcallee 33 1 := ⟨xin 439 (by decide +kernel), xin 6 (by decide +kernel), by decide +kernel, by decide +kernel⟩
theorem xce34 : xcallee 34 1 := ⟨xin 462 (by decide +kernel), xin 6 (by decide +kernel), by decide +kernel, by decide +kernel⟩
theorem xce35 : xcallee 35 1 := ⟨xin 556 (by decide +kernel), xin 6 (by decide +kernel), by decide +kernel, by decide +kernel⟩
theorem xce36 : xcallee 36 2 := ⟨xin 565 (by decide +kernel), xin 6 (by decide +kernel), by decide +kernel, by decide +kernel⟩
theorem xce37 : xcallee 37 1 := ⟨xin 632 (by decide +kernel), xin 6 (by decide +kernel), by decide +kernel, by decide +kernel⟩
theorem xce38 : xcallee 38 0 := ⟨xin 761 (by decide +kernel), xin 6 (by decide +kernel), by decide +kernel, by decide +kernel⟩
theorem xce39 : xcallee 39 0 := ⟨xin 769 (by decide +kernel), xin 6 (by decide +kernel), by decide +kernel, by decide +kernel⟩
theorem xce40 : xcallee 40 0 := ⟨xin 778 (by decide +kernel), xin 6 (by decide +kernel), by decide +kernel, by decide +kernel⟩
theorem xce41 : xcallee 41 0 := ⟨xin 790 (by decide +kernel), xin 6 (by decide +kernel), by decide +kernel, by decide +kernel⟩
theorem xce42 : xcallee 42 1 := ⟨xin 569 (by decide +kernel), xin 6 (by decide +kernel), by decide +kernel, by decide +kernel⟩
theorem xce43 : xcallee 43 2 := ⟨xin 661 (by decide +kernel), xin 6 (by decide +kernel), by decide +kernel, by decide +kernel⟩
theorem xce44 : xcallee 44 2 := ⟨xin 657 (by decide +kernel), xin 6 (by decide +kernel), by decide +kernel, by decide +kernel⟩
theorem xce45 : xcallee 45 3 := ⟨xin 640 (by decide +kernel), xin 6 (by decide +kernel), by decide +kernel, by decide +kernel⟩
theorem xce46 : xcallee 46 1 := ⟨xin 653 (by decide +kernel), xin 6 (by decide +kernel), by decide +kernel, by decide +kernel⟩
theorem xce47 : xcallee 47 1 := ⟨xin 540 (by decide +kernel), xin 19 (by decide +kernel), by decide +kernel, by decide +kernel⟩
theorem xce48 : xcallee 48 1 := ⟨xin 472 (by decide +kernel), xin 19 (by decide +kernel), by decide +kernel, by decide +kernel⟩
theorem xce49 : xcallee 49 0 := ⟨xin 765 (by decide +kernel), xin 19 (by decide +kernel), by decide +kernel, by decide +kernel⟩
theorem xce50 : xcallee 50 2 := ⟨xin 782 (by decide +kernel), xin 19 (by decide +kernel), by decide +kernel, by decide +kernel⟩
theorem xce51 : xcallee 51 0 := ⟨xin 841 (by decide +kernel), xin 20 (by decide +kernel), by decide +kernel, by decide +kernel⟩
theorem xce52 : xcallee 52 1 := ⟨xin 544 (by decide +kernel), xin 20 (by decide +kernel), by decide +kernel, by decide +kernel⟩
theorem xce53 : xcallee 53 0 := ⟨xin 548 (by decide +kernel), xin 20 (by decide +kernel), by decide +kernel, by decide +kernel⟩
theorem xce54 : xcallee 54 0 := ⟨xin 773 (by decide +kernel), xin 20 (by decide +kernel), by decide +kernel, by decide +kernel⟩
theorem xce55 : xcallee 55 0 := ⟨xin 479 (by decide +kernel), xin 20 (by decide +kernel), by decide +kernel, by decide +kernel⟩
theorem xce56 : xcallee 56 3 := ⟨xin 786 (by decide +kernel), xin 20 (by decide +kernel), by decide +kernel, by decide +kernel⟩
theorem xce57 : xcallee 57 1 := ⟨xin 443 (by decide +kernel), xin 17 (by decide +kernel), by decide +kernel, by decide +kernel⟩
theorem xce58 : xcallee 58 1 := ⟨xin 94 (by decide +kernel), xin 7 (by decide +kernel), by decide +kernel, by decide +kernel⟩
theorem xce59 : xcallee 59 2 := ⟨xin 819 (by decide +kernel), xin 7 (by decide +kernel), by decide +kernel, by decide +kernel⟩
theorem xce60 : xcallee 60 3 := ⟨xin 678 (by decide +kernel), xin 22 (by decide +kernel), by decide +kernel, by decide +kernel⟩
theorem xce61 : xcallee 61 1 := ⟨xin 938 (by decide +kernel), xin 22 (by decide +kernel), by decide +kernel, by decide +kernel⟩
theorem xce62 : xcallee 62 1 := ⟨xin 666 (by decide +kernel), xin 22 (by decide +kernel), by decide +kernel, by decide +kernel⟩
theorem xce63 : xcallee 63 1 := ⟨xin 798 (by decide +kernel), xin 22 (by decide +kernel), by decide +kernel, by decide +kernel⟩
theorem xce64 : xcallee 64 1 := ⟨xin 824 (by decide +kernel), xin 22 (by decide +kernel), by decide +kernel, by decide +kernel⟩
theorem xce65 : xcallee 65 0 := ⟨xin 942 (by decide +kernel), xin 22 (by decide +kernel), by decide +kernel, by decide +kernel⟩
theorem xce66 : xcallee 66 2 := ⟨xin 828 (by decide +kernel), xin 22 (by decide +kernel), by decide +kernel, by decide +kernel⟩
theorem xce67 : xcallee 67 0 := ⟨xin 685 (by decide +kernel), xin 23 (by decide +kernel), by decide +kernel, by decide +kernel⟩
theorem xce68 : xcallee 68 3 := ⟨xin 854 (by decide +kernel), xin 24 (by decide +kernel), by decide +kernel, by decide +kernel⟩
theorem xce69 : xcallee 69 3 := ⟨xin 918 (by decide +kernel), xin 24 (by decide +kernel), by decide +kernel, by decide +kernel⟩
theorem xce70 : xcallee 70 1 := ⟨xin 807 (by decide +kernel), xin 24 (by decide +kernel), by decide +kernel, by decide +kernel⟩
theorem xce71 : xcallee 71 1 := ⟨xin 576 (by decide +kernel), xin 21 (by decide +kernel), by decide +kernel, by decide +kernel⟩
theorem xce72 : xcallee 72 1 := ⟨xin 744 (by decide +kernel), xin 21 (by decide +kernel), by decide +kernel, by decide +kernel⟩
theorem xce73 : xcallee 73 3 := ⟨xin 612 (by decide +kernel), xin 21 (by decide +kernel), by decide +kernel, by decide +kernel⟩
theorem xce74 : xcallee 74 1 := ⟨xin 349 (by decide +kernel), xin 15 (by decide +kernel), by decide +kernel, by decide +kernel⟩
theorem xce75 : xcallee 75 1 := ⟨xin 356 (by decide +kernel), xin 15 (by decide +kernel), by decide +kernel, by decide +kernel⟩
theorem xce76 : xcallee 76 1 := ⟨xin 748 (by decide +kernel), xin 15 (by decide +kernel), by decide +kernel, by decide +kernel⟩
theorem xce77 : xcallee 77 2 := ⟨xin 669 (by decide +kernel), xin 15 (by decide +kernel), by decide +kernel, by decide +kernel⟩
theorem xce78 : xcallee 78 5 := ⟨xin 674 (by decide +kernel), xin 15 (by decide +kernel), by decide +kernel, by decide +kernel⟩
theorem xce79 : xcallee 79 3 := ⟨xin 958 (by decide +kernel), xin 8 (by decide +kernel), by decide +kernel, by decide +kernel⟩
theorem xce80 : xcallee 80 1 := ⟨xin 1112 (by decide +kernel), xin 8 (by decide +kernel), by decide +kernel, by decide +kernel⟩
theorem xce81 : xcallee 81 0 := ⟨xin 1116 (by decide +kernel), xin 8 (by decide +kernel), by decide +kernel, by decide +kernel⟩
theorem xce82 : xcallee 82 1 := ⟨xin 1135 (by decide +kernel), xin 8 (by decide +kernel), by decide +kernel, by decide +kernel⟩
theorem xce83 : xcallee 83 2 := ⟨xin 1147 (by decide +kernel), xin 8 (by decide +kernel), by decide +kernel, by decide +kernel⟩
theorem xce84 : xcallee 84 2 := ⟨xin 1151 (by decide +kernel), xin 8 (by decide +kernel), by decide +kernel, by decide +kernel⟩
theorem xce85 : xcallee 85 1 := ⟨xin 1219 (by decide +kernel), xin 8 (by decide +kernel), by decide +kernel, by decide +kernel⟩
theorem xce86 : xcallee 86 1 := ⟨xin 1258 (by decide +kernel), xin 8 (by decide +kernel), by decide +kernel, by decide +kernel⟩
theorem xce87 : xcallee 87 1 := ⟨xin 1262 (by decide +kernel), xin 8 (by decide +kernel), by decide +kernel, by decide +kernel⟩
theorem xce88 : xcallee 88 1 := ⟨xin 1274 (by decide +kernel), xin 8 (by decide +kernel), by decide +kernel, by decide +kernel⟩
theorem xce89 : xcallee 89 0 := ⟨xin 1171 (by decide +kernel), xin 8 (by decide +kernel), by decide +kernel, by decide +kernel⟩
theorem xce90 : xcallee 90 2 := ⟨xin 1167 (by decide +kernel), xin 8 (by decide +kernel), by decide +kernel, by decide +kernel⟩
theorem xce91 : xcallee 91 2 := ⟨xin 1155 (by decide +kernel), xin 8 (by decide +kernel), by decide +kernel, by decide +kernel⟩
theorem xce92 : xcallee 92 2 := ⟨xin 1282 (by decide +kernel), xin 8 (by decide +kernel), by decide +kernel, by decide +kernel⟩
theorem xce93 : xcallee 93 4 := ⟨xin 1286 (by decide +kernel), xin 8 (by decide +kernel), by decide +kernel, by decide +kernel⟩
theorem xce94 : xcallee 94 1 := ⟨xin 1294 (by decide +kernel), xin 8 (by decide +kernel), by decide +kernel, by decide +kernel⟩
theorem xce95 : xcallee 95 1 := ⟨xin 1298 (by decide +kernel), xin 8 (by decide +kernel), by decide +kernel, by decide +kernel⟩
theorem xce96 : xcallee 96 1 := ⟨xin 1302 (by decide +kernel), xin 8 (by decide +kernel), by decide +kernel, by decide +kernel⟩
theorem xce97 : xcallee 97 2 := ⟨xin 1278 (by decide +kernel), xin 8 (by decide +kernel), by decide +kernel, by decide +kernel⟩
theorem xce98 : xcallee 98 1 := ⟨xin 1306 (by decide +kernel), xin 8 (by decide +kernel), by decide +kernel, by decide +kernel⟩
theorem xce99 : xcallee 99 0 := ⟨xin 1310 (by decide +kernel), xin 8 (by decide +kernel), by decide +kernel, by decide +kernel⟩
theorem xce100 : xcallee 100 2 := ⟨xin 1120 (by decide +kernel), xin 8 (by decide +kernel), by decide +kernel, by decide +kernel⟩
theorem xce101 : xcallee 101 3 := ⟨xin 1131 (by decide +kernel), xin 8 (by decide +kernel), by decide +kernel, by decide +kernel⟩
theorem xce102 : xcallee 102 1 := ⟨xin 1139 (by decide +kernel), xin 8 (by decide +kernel), by decide +kernel, by decide +kernel⟩
theorem xce103 : xcallee 103 1 := ⟨xin 1223 (by decide +kernel), xin 8 (by decide +kernel), by decide +kernel, by decide +kernel⟩
theorem xce104 : xcallee 104 1 := ⟨xin 1227 (by decide +kernel), xin 8 (by decide +kernel), by decide +kernel, by decide +kernel⟩
theorem xce105 : xcallee 105 1 := ⟨xin 1266 (by decide +kernel), xin 8 (by decide +kernel), by decide +kernel, by decide +kernel⟩
theorem xce106 : xcallee 106 0 := ⟨xin 1175 (by decide +kernel), xin 8 (by decide +kernel), by decide +kernel, by decide +kernel⟩
theorem xce107 : xcallee 107 0 := ⟨xin 1179 (by decide +kernel), xin 8 (by decide +kernel), by decide +kernel, by decide +kernel⟩
theorem xce108 : xcallee 108 1 := ⟨xin 1183 (by decide +kernel), xin 8 (by decide +kernel), by decide +kernel, by decide +kernel⟩
theorem xce109 : xcallee 109 0 := ⟨xin 1191 (by decide +kernel), xin 8 (by decide +kernel), by decide +kernel, by decide +kernel⟩
theorem xce110 : xcallee 110 2 := ⟨xin 1195 (by decide +kernel), xin 8 (by decide +kernel), by decide +kernel, by decide +kernel⟩
theorem xce111 : xcallee 111 1 := ⟨xin 1199 (by decide +kernel), xin 8 (by decide +kernel), by decide +kernel, by decide +kernel⟩
theorem xce112 : xcallee 112 1 := ⟨xin 1203 (by decide +kernel), xin 8 (by decide +kernel), by decide +kernel, by decide +kernel⟩
theorem xce113 : xcallee 113 2 := ⟨xin 1159 (by decide +kernel), xin 8 (by decide +kernel), by decide +kernel, by decide +kernel⟩
theorem xce114 : xcallee 114 1 := ⟨xin 1290 (by decide +kernel), xin 8 (by decide +kernel), by decide +kernel, by decide +kernel⟩
theorem xce115 : xcallee 115 2 := ⟨xin 1124 (by decide +kernel), xin 8 (by decide +kernel), by decide +kernel, by decide +kernel⟩
theorem xce116 : xcallee 116 2 := ⟨xin 1143 (by decide +kernel), xin 8 (by decide +kernel), by decide +kernel, by decide +kernel⟩
theorem xce117 : xcallee 117 1 := ⟨xin 1231 (by decide +kernel), xin 8 (by decide +kernel), by decide +kernel, by decide +kernel⟩
theorem xce118 : xcallee 118 3 := ⟨xin 1235 (by decide +kernel), xin 8 (by decide +kernel), by decide +kernel, by decide +kernel⟩
theorem xce119 : xcallee 119 3 := ⟨xin 1250 (by decide +kernel), xin 8 (by decide +kernel), by decide +kernel, by decide +kernel⟩
theorem xce120 : xcallee 120 2 := ⟨xin 1270 (by decide +kernel), xin 8 (by decide +kernel), by decide +kernel, by decide +kernel⟩
theorem xce121 : xcallee 121 4 := ⟨xin 1187 (by decide +kernel), xin 8 (by decide +kernel), by decide +kernel, by decide +kernel⟩
theorem xce122 : xcallee 122 2 := ⟨xin 1207 (by decide +kernel), xin 8 (by decide +kernel), by decide +kernel, by decide +kernel⟩
theorem xce123 : xcallee 123 3 := ⟨xin 1211 (by decide +kernel), xin 8 (by decide +kernel), by decide +kernel, by decide +kernel⟩
theorem xce124 : xcallee 124 2 := ⟨xin 1215 (by decide +kernel), xin 8 (by decide +kernel), by decide +kernel, by decide +kernel⟩
theorem xce125 : xcallee 125 1 := ⟨xin 1163 (by decide +kernel), xin 8 (by decide +kernel), by decide +kernel, by decide +kernel⟩
theorem xce126 : xcallee 126 1 := ⟨xin 1127 (by decide +kernel), xin 8 (by decide +kernel), by decide +kernel, by decide +kernel⟩
theorem xce127 : xcallee 127 2 := ⟨xin 1239 (by decide +kernel), xin 8 (by decide +kernel), by decide +kernel, by decide +kernel⟩
theorem xce128 : xcallee 128 4 := ⟨xin 1246 (by decide +kernel), xin 8 (by decide +kernel), by decide +kernel, by decide +kernel⟩
theorem xce129 : xcallee 129 2 := ⟨xin 1254 (by decide +kernel), xin 8 (by decide +kernel), by decide +kernel, by decide +kernel⟩
theorem xce130 : xcallee 130 1 := ⟨xin 1242 (by decide +kernel), xin 8 (by decide +kernel), by decide +kernel, by decide +kernel⟩
theorem xce131 : xcallee 131 1 := ⟨xin 40 (by decide +kernel), xin 2 (by decide +kernel), by decide +kernel, by decide +kernel⟩
theorem xce132 : xcallee 132 0 := ⟨xin 169 (by decide +kernel), xin 2 (by decide +kernel), by decide +kernel, by decide +kernel⟩
theorem xce133 : xcallee 133 1 := ⟨xin 176 (by decide +kernel), xin 2 (by decide +kernel), by decide +kernel, by decide +kernel⟩
theorem xce134 : xcallee 134 1 := ⟨xin 180 (by decide +kernel), xin 2 (by decide +kernel), by decide +kernel, by decide +kernel⟩
theorem xce135 : xcallee 135 0 := ⟨xin 216 (by decide +kernel), xin 2 (by decide +kernel), by decide +kernel, by decide +kernel⟩
theorem xce136 : xcallee 136 1 := ⟨xin 333 (by decide +kernel), xin 2 (by decide +kernel), by decide +kernel, by decide +kernel⟩
theorem xce137 : xcallee 137 1 := ⟨xin 184 (by decide +kernel), xin 2 (by decide +kernel), by decide +kernel, by decide +kernel⟩
theorem xce138 : xcallee 138 0 := ⟨xin 290 (by decide +kernel), xin 2 (by decide +kernel), by decide +kernel, by decide +kernel⟩
theorem xce139 : xcallee 139 1 := ⟨xin 465 (by decide +kernel), xin 18 (by decide +kernel), by decide +kernel, by decide +kernel⟩
theorem xce142 : xcallee 142 0 := ⟨xin 353 (by decide +kernel), xin 4 (by decide +kernel), by decide +kernel, by decide +kernel⟩
theorem xce143 : xcallee 143 1 := ⟨xin 384 (by decide +kernel), xin 4 (by decide +kernel), by decide +kernel, by decide +kernel⟩
theorem xce144 : xcallee 144 2 := ⟨xin 581 (by decide +kernel), xin 4 (by decide +kernel), by decide +kernel, by decide +kernel⟩
theorem xce145 : xcallee 145 1 := ⟨xin 604 (by decide +kernel), xin 4 (by decide +kernel), by decide +kernel, by decide +kernel⟩
theorem xce146 : xcallee 146 1 := ⟨xin 645 (by decide +kernel), xin 4 (by decide +kernel), by decide +kernel, by decide +kernel⟩
theorem xce147 : xcallee 147 1 := ⟨xin 281 (by decide +kernel), xin 4 (by decide +kernel), by decide +kernel, by decide +kernel⟩
theorem xce148 : xcallee 148 0 := ⟨xin 360 (by decide +kernel), xin 4 (by decide +kernel), by decide +kernel, by decide +kernel⟩
theorem xce149 : xcallee 149 1 := ⟨xin 369 (by decide +kernel), xin 4 (by decide +kernel), by decide +kernel, by decide +kernel⟩
theorem xce150 : xcallee 150 2 := ⟨xin 388 (by decide +kernel), xin 4 (by decide +kernel), by decide +kernel, by decide +kernel⟩
theorem xce151 : xcallee 151 3 := ⟨xin 415 (by decide +kernel), xin 4 (by decide +kernel), by decide +kernel, by decide +kernel⟩
theorem xce152 : xcallee 152 0 := ⟨xin 373 (by decide +kernel), xin 4 (by decide +kernel), by decide +kernel, by decide +kernel⟩
theorem xce153 : xcallee 153 2 := ⟨xin 284 (by decide +kernel), xin 4 (by decide +kernel), by decide +kernel, by decide +kernel⟩
theorem xce154 : xcallee 154 0 := ⟨xin 364 (by decide +kernel), xin 4 (by decide +kernel), by decide +kernel, by decide +kernel⟩
theorem xce155 : xcallee 155 2 := ⟨xin 591 (by decide +kernel), xin 4 (by decide +kernel), by decide +kernel, by decide +kernel⟩
theorem xce156 : xcallee 156 2 := ⟨xin 261 (by decide +kernel), xin 4 (by decide +kernel), by decide +kernel, by decide +kernel⟩
theorem xce157 : xcallee 157 0 := ⟨xin 37 (by decide +kernel), xin 3 (by decide +kernel), by decide +kernel, by decide +kernel⟩
theorem xce158 : xcallee 158 0 := ⟨xin 166 (by decide +kernel), xin 3 (by decide +kernel), by decide +kernel, by decide +kernel⟩
theorem xce159 : xcallee 159 1 := ⟨xin 173 (by decide +kernel), xin 3 (by decide +kernel), by decide +kernel, by decide +kernel⟩
theorem xce160 : xcallee 160 0 := ⟨xin 276 (by decide +kernel), xin 3 (by decide +kernel), by decide +kernel, by decide +kernel⟩
theorem xce161 : xcallee 161 1 := ⟨xin 330 (by decide +kernel), xin 3 (by decide +kernel), by decide +kernel, by decide +kernel⟩
theorem xce162 : xcallee 162 1 := ⟨xin 219 (by decide +kernel), xin 13 (by decide +kernel), by decide +kernel, by decide +kernel⟩
theorem xce163 : xcallee 163 3 := ⟨xin 585 (by decide +kernel), xin 13 (by decide +kernel), by decide +kernel, by decide +kernel⟩
theorem xce164 : xcallee 164 2 := ⟨xin 649 (by decide +kernel), xin 13 (by decide +kernel), by decide +kernel, by decide +kernel⟩
theorem xce165 : xcallee 165 2 := ⟨xin 376 (by decide +kernel), xin 13 (by decide +kernel), by decide +kernel, by decide +kernel⟩
theorem xce166 : xcallee 166 4 := ⟨xin 392 (by decide +kernel), xin 13 (by decide +kernel), by decide +kernel, by decide +kernel⟩
theorem xce167 : xcallee 167 1 := ⟨xin 395 (by decide +kernel), xin 13 (by decide +kernel), by decide +kernel, by decide +kernel⟩
theorem xce168 : xcallee 168 4 := ⟨xin 400 (by decide +kernel), xin 13 (by decide +kernel), by decide +kernel, by decide +kernel⟩
theorem xce169 : xcallee 169 2 := ⟨xin 198 (by decide +kernel), xin 11 (by decide +kernel), by decide +kernel, by decide +kernel⟩
theorem xce170 : xcallee 170 3 := ⟨xin 295 (by decide +kernel), xin 11 (by decide +kernel), by decide +kernel, by decide +kernel⟩
theorem xce171 : xcallee 171 3 := ⟨xin 298 (by decide +kernel), xin 11 (by decide +kernel), by decide +kernel, by decide +kernel⟩
theorem xce172 : xcallee 172 2 := ⟨xin 301 (by decide +kernel), xin 11 (by decide +kernel), by decide +kernel, by decide +kernel⟩
theorem xce173 : xcallee 173 3 := ⟨xin 187 (by decide +kernel), xin 9 (by decide +kernel), by decide +kernel, by decide +kernel⟩
theorem xce174 : xcallee 174 4 := ⟨xin 418 (by decide +kernel), xin 14 (by decide +kernel), by decide +kernel, by decide +kernel⟩
theorem xce175 : xcallee 175 3 := ⟨xin 264 (by decide +kernel), xin 14 (by decide +kernel), by decide +kernel, by decide +kernel⟩
end
section
def xlinks0 : List xLk := [(13, 7, 53, (53, 0, 0, 15, 0, [])), (13, 9, 71, (71, 0, 1, 2, 0, [])), (13, 15, 72, (72, 0, 2, 3, 0, [])), (13, 18, 53, (53, 0, 12, 49, 0, [])), (13, 20, 72, (72, 0, 79, 3, 0, [])), (13, 21, 70, (70, 0, 3, 1, 0, [])), (13, 25, 70, (70, 0, 80, 1, 12, [])), (13, 26, 70, (70, 0, 4, 0, 0, [])), (13, 30, 70, (70, 0, 81, 0, 12, [])), (13, 31, 70, (70, 0, 5, 1, 0, [])), (13, 35, 70, (70, 0, 82, 1, 12, [])), (13, 36, 70, (70, 0, 6, 2, 0, [])), (13, 40, 70, (70, 0, 83, 2, 12, [])), (13, 41, 70, (70, 0, 7, 2, 0, [])), (13, 45, 70, (70, 0, 84, 2, 12, [])), (13, 46, 70, (70, 0, 8, 1, 0, [])), (13, 49, 70, (70, 0, 85, 1, 12, [])), (13, 50, 70, (70, 0, 9, 1, 0, [])), (13, 54, 70, (70, 0, 86, 1, 12, [])), (13, 55, 70, (70, 0, 10, 1, 0, []))]
def xlinks1 : List xLk := [(13, 58, 70, (70, 0, 87, 1, 12, [])), (13, 59, 70, (70, 0, 11, 1, 0, [])), (13, 62, 70, (70, 0, 88, 1, 12, [])), (13, 63, 70, (70, 0, 12, 0, 0, [])), (13, 66, 70, (70, 0, 89, 0, 12, [])), (13, 67, 70, (70, 0, 13, 2, 0, [])), (13, 70, 70, (70, 0, 90, 2, 12, [])), (13, 71, 70, (70, 0, 14, 2, 0, [])), (13, 74, 70, (70, 0, 91, 2, 12, [])), (13, 75, 70, (70, 0, 15, 2, 0, [])), (13, 78, 70, (70, 0, 92, 2, 12, [])), (13, 79, 70, (70, 0, 16, 4, 0, [])), (13, 83, 70, (70, 0, 93, 4, 12, [])), (13, 84, 70, (70, 0, 17, 1, 0, [])), (13, 87, 70, (70, 0, 94, 1, 12, [])), (13, 88, 70, (70, 0, 18, 1, 0, [])), (13, 91, 70, (70, 0, 95, 1, 12, [])), (13, 92, 70, (70, 0, 19, 1, 0, [])), (13, 95, 70, (70, 0, 96, 1, 12, [])), (13, 96, 70, (70, 0, 20, 2, 0, []))]
def xlinks2 : List xLk := [(13, 99, 70, (70, 0, 97, 2, 12, [])), (13, 100, 70, (70, 0, 21, 1, 0, [])), (13, 104, 70, (70, 0, 98, 1, 12, [])), (13, 105, 70, (70, 0, 22, 0, 0, [])), (13, 108, 70, (70, 0, 99, 0, 12, [])), (0, 1, 72, (73, 0, 0, 0, 0, [])), (0, 7, 53, (53, 0, 1, 4, 0, [])), (0, 9, 72, (72, 0, 157, 0, 0, [])), (0, 10, 151, (51, 0, 0, 3, 4, [])), (0, 16, 53, (53, 0, 2, 4, 0, [])), (0, 18, 72, (72, 0, 32, 0, 0, [])), (0, 19, 151, (51, 0, 0, 4, 4, [])), (0, 23, 53, (53, 0, 3, 3, 0, [])), (0, 19, 50, (50, 0, 0, 4, 0, [])), (0, 25, 72, (72, 0, 58, 1, 0, [])), (0, 28, 151, (51, 0, 0, 5, 4, [])), (0, 32, 55, (55, 0, 6, 0, 0, [])), (0, 34, 151, (51, 0, 0, 6, 4, [])), (0, 38, 55, (55, 0, 7, 0, 0, [])), (0, 40, 151, (51, 0, 0, 8, 4, []))]
def xlinks3 : List xLk := [(0, 44, 151, (51, 0, 0, 10, 4, [])), (0, 48, 151, (51, 0, 0, 12, 4, [])), (0, 51, 151, (51, 0, 0, 13, 4, [])), (0, 54, 151, (51, 0, 0, 0, 0, [])), (0, 58, 151, (51, 0, 0, 1, 0, [])), (0, 61, 151, (51, 0, 0, 2, 0, [])), (0, 10, 50, (50, 0, 0, 3, 0, [])), (0, 64, 70, (70, 0, 158, 0, 1, [])), (0, 68, 70, (70, 0, 159, 1, 1, [])), (0, 72, 70, (70, 0, 23, 0, 0, [])), (0, 76, 71, (71, 0, 74, 1, 0, [])), (0, 82, 70, (70, 0, 33, 1, 2, [])), (0, 86, 70, (70, 0, 34, 1, 2, [])), (0, 90, 70, (70, 0, 35, 1, 2, [])), (0, 94, 50, (50, 0, 2, 2, 0, [])), (0, 98, 50, (50, 0, 6, 2, 0, [])), (0, 104, 70, (70, 0, 47, 1, 6, [])), (0, 108, 70, (70, 0, 36, 2, 2, [])), (0, 112, 71, (71, 0, 71, 1, 0, [])), (0, 118, 70, (70, 0, 37, 1, 2, []))]
def xlinks4 : List xLk := [(0, 51, 50, (50, 0, 0, 13, 0, [])), (0, 121, 70, (70, 0, 24, 3, 0, [])), (0, 125, 50, (50, 0, 0, 7, 0, [])), (0, 34, 50, (50, 0, 0, 6, 0, [])), (0, 32, 53, (53, 0, 9, 7, 0, [])), (0, 128, 50, (50, 0, 8, 0, 0, [])), (0, 132, 50, (50, 0, 8, 1, 0, [])), (0, 135, 72, (72, 0, 60, 3, 0, [])), (0, 125, 51, (51, 0, 0, 7, 0, [])), (0, 138, 70, (70, 0, 25, 1, 0, [])), (0, 141, 50, (50, 0, 9, 3, 0, [])), (0, 141, 51, (51, 0, 9, 3, 1, [])), (0, 144, 71, (71, 0, 72, 1, 0, [])), (0, 44, 50, (50, 0, 0, 10, 0, [])), (0, 147, 51, (51, 0, 0, 11, 0, [])), (0, 147, 50, (50, 0, 0, 11, 0, [])), (0, 150, 50, (50, 0, 0, 14, 0, [])), (0, 150, 51, (51, 0, 0, 14, 0, [])), (0, 153, 70, (70, 0, 38, 0, 2, [])), (0, 156, 70, (70, 0, 39, 0, 2, []))]
def xlinks5 : List xLk := [(0, 159, 70, (70, 0, 40, 0, 2, [])), (0, 162, 70, (70, 0, 41, 0, 2, [])), (0, 165, 70, (70, 0, 26, 0, 0, [])), (0, 168, 70, (70, 0, 27, 0, 0, [])), (0, 171, 70, (70, 0, 28, 0, 0, [])), (0, 174, 70, (70, 0, 42, 1, 2, [])), (0, 177, 50, (50, 0, 6, 3, 0, [])), (0, 181, 70, (70, 0, 51, 0, 7, [])), (0, 186, 70, (70, 0, 43, 2, 2, [])), (0, 189, 50, (50, 0, 9, 0, 0, [])), (0, 192, 70, (70, 0, 44, 2, 2, [])), (0, 196, 50, (50, 0, 0, 9, 0, [])), (0, 40, 50, (50, 0, 0, 8, 0, [])), (0, 38, 53, (53, 0, 11, 13, 0, [])), (0, 199, 72, (72, 0, 68, 3, 0, [])), (0, 196, 51, (51, 0, 0, 9, 0, [])), (0, 202, 70, (70, 0, 29, 1, 0, [])), (0, 205, 50, (50, 0, 11, 3, 0, [])), (0, 208, 50, (50, 0, 11, 6, 0, [])), (0, 211, 70, (70, 0, 69, 3, 11, []))]
def xlinks6 : List xLk := [(0, 215, 70, (70, 0, 30, 1, 0, [])), (0, 219, 50, (50, 0, 11, 5, 0, [])), (0, 222, 50, (50, 0, 11, 12, 0, [])), (0, 225, 50, (50, 0, 11, 9, 0, [])), (0, 228, 70, (70, 0, 61, 1, 9, [])), (0, 28, 50, (50, 0, 0, 5, 0, [])), (0, 231, 51, (51, 0, 3, 1, 0, [])), (0, 234, 50, (50, 0, 3, 2, 0, [])), (0, 237, 70, (70, 0, 160, 0, 1, [])), (0, 240, 70, (70, 0, 161, 1, 1, [])), (0, 244, 50, (50, 0, 8, 2, 0, [])), (0, 48, 50, (50, 0, 0, 12, 0, [])), (0, 247, 70, (70, 0, 45, 3, 2, [])), (0, 251, 70, (70, 0, 62, 1, 9, [])), (0, 61, 50, (50, 0, 0, 2, 0, [])), (0, 255, 70, (70, 0, 63, 1, 9, [])), (0, 258, 50, (50, 0, 11, 1, 0, [])), (0, 259, 50, (50, 0, 11, 2, 0, [])), (0, 263, 70, (70, 0, 70, 1, 11, [])), (0, 266, 50, (50, 0, 11, 11, 0, []))]
def xlinks7 : List xLk := [(0, 54, 50, (50, 0, 0, 0, 0, [])), (0, 269, 50, (50, 0, 11, 10, 0, [])), (0, 58, 50, (50, 0, 0, 1, 0, [])), (0, 208, 51, (51, 0, 11, 6, 0, [])), (0, 269, 51, (51, 0, 11, 10, 0, [])), (0, 266, 51, (51, 0, 11, 11, 0, [])), (0, 272, 70, (70, 0, 59, 2, 3, [])), (0, 275, 70, (70, 0, 64, 1, 9, [])), (0, 279, 51, (51, 0, 10, 4, 0, [])), (0, 284, 70, (70, 0, 31, 1, 0, [])), (0, 287, 50, (50, 0, 10, 3, 0, [])), (0, 222, 51, (51, 0, 11, 12, 0, [])), (0, 290, 51, (51, 0, 10, 0, 1, [])), (0, 225, 51, (51, 0, 11, 9, 0, [])), (2, 3, 72, (73, 0, 0, 0, 0, [])), (2, 9, 55, (55, 0, 4, 0, 0, [])), (2, 11, 151, (51, 0, 2, 0, 4, [])), (2, 17, 55, (55, 0, 5, 0, 0, [])), (2, 19, 151, (51, 0, 2, 2, 4, [])), (2, 23, 50, (50, 0, 2, 1, 0, []))]
def xlinks8 : List xLk := [(2, 11, 50, (50, 0, 2, 0, 0, [])), (2, 9, 53, (53, 0, 5, 2, 0, [])), (2, 38, 72, (72, 0, 57, 1, 0, [])), (2, 23, 51, (51, 0, 2, 1, 0, [])), (2, 41, 71, (71, 0, 139, 1, 0, [])), (2, 27, 50, (50, 0, 2, 3, 0, [])), (2, 19, 50, (50, 0, 2, 2, 0, [])), (2, 17, 53, (53, 0, 6, 6, 0, [])), (2, 47, 72, (72, 0, 48, 1, 0, [])), (2, 50, 70, (70, 0, 47, 1, 6, [])), (2, 27, 51, (51, 0, 2, 3, 0, [])), (2, 30, 70, (70, 0, 42, 1, 2, [])), (2, 34, 50, (50, 0, 5, 1, 0, [])), (2, 102, 70, (70, 0, 49, 0, 6, [])), (2, 60, 50, (50, 0, 6, 3, 0, [])), (2, 106, 70, (70, 0, 54, 0, 7, [])), (2, 109, 50, (50, 0, 6, 2, 0, [])), (2, 112, 70, (70, 0, 50, 2, 6, [])), (2, 95, 50, (50, 0, 7, 5, 0, [])), (2, 116, 51, (51, 0, 7, 6, 1, []))]
def xlinks9 : List xLk := [(2, 64, 50, (50, 0, 7, 0, 0, [])), (2, 76, 50, (50, 0, 7, 2, 0, [])), (2, 57, 70, (70, 0, 35, 1, 2, [])), (2, 116, 50, (50, 0, 7, 6, 0, [])), (2, 95, 51, (51, 0, 7, 5, 1, [])), (2, 54, 70, (70, 0, 46, 1, 2, [])), (2, 70, 50, (50, 0, 7, 4, 0, [])), (2, 73, 50, (50, 0, 7, 1, 0, [])), (2, 79, 70, (70, 0, 43, 2, 2, [])), (2, 83, 60, (60, 0, 2, 0, 0, [])), (2, 85, 70, (70, 0, 146, 1, 4, [])), (2, 91, 50, (50, 0, 5, 0, 0, [])), (2, 98, 70, (70, 0, 44, 2, 2, [])), (2, 119, 50, (50, 0, 6, 0, 0, [])), (6, 39, 51, (51, 0, 6, 2, 1, [])), (6, 39, 50, (50, 0, 6, 2, 0, [])), (6, 9, 50, (50, 0, 6, 0, 0, [])), (6, 17, 50, (50, 0, 6, 3, 0, [])), (6, 43, 70, (70, 0, 52, 1, 7, [])), (6, 47, 70, (70, 0, 53, 0, 7, []))]
def xlinks10 : List xLk := [(6, 3, 72, (73, 0, 0, 0, 0, [])), (6, 9, 151, (51, 0, 6, 0, 4, [])), (6, 15, 55, (55, 0, 8, 0, 0, [])), (6, 17, 151, (51, 0, 6, 3, 4, [])), (6, 21, 151, (51, 0, 6, 4, 4, [])), (6, 25, 151, (51, 0, 6, 5, 4, [])), (6, 15, 53, (53, 0, 7, 7, 0, [])), (6, 28, 72, (72, 0, 55, 0, 0, [])), (6, 29, 71, (71, 0, 139, 1, 0, [])), (6, 35, 151, (51, 0, 6, 1, 0, [])), (6, 21, 50, (50, 0, 6, 4, 0, [])), (6, 50, 50, (50, 0, 7, 0, 0, [])), (6, 53, 50, (50, 0, 7, 4, 0, [])), (6, 56, 50, (50, 0, 7, 1, 0, [])), (6, 25, 50, (50, 0, 6, 5, 0, [])), (6, 59, 50, (50, 0, 7, 3, 0, [])), (6, 35, 50, (50, 0, 6, 1, 0, [])), (6, 62, 70, (70, 0, 56, 3, 7, [])), (7, 9, 50, (50, 0, 7, 0, 0, [])), (7, 15, 50, (50, 0, 7, 1, 0, []))]
def xlinks11 : List xLk := [(7, 22, 50, (50, 0, 7, 3, 0, [])), (7, 25, 50, (50, 0, 7, 4, 0, [])), (7, 28, 50, (50, 0, 7, 5, 0, [])), (7, 19, 50, (50, 0, 7, 2, 0, [])), (7, 9, 51, (51, 0, 7, 0, 1, [])), (7, 15, 51, (51, 0, 7, 1, 0, [])), (7, 19, 51, (51, 0, 7, 2, 0, [])), (7, 22, 51, (51, 0, 7, 3, 0, [])), (7, 25, 51, (51, 0, 7, 4, 0, [])), (7, 28, 51, (51, 0, 7, 5, 1, [])), (7, 31, 70, (70, 0, 53, 0, 7, [])), (7, 3, 72, (73, 0, 0, 0, 0, [])), (5, 3, 72, (73, 0, 0, 0, 0, [])), (5, 9, 151, (51, 0, 5, 1, 4, [])), (5, 15, 151, (51, 0, 5, 0, 4, [])), (3, 3, 72, (73, 0, 0, 0, 0, [])), (3, 9, 151, (51, 0, 3, 0, 4, [])), (3, 15, 50, (50, 0, 3, 1, 0, [])), (3, 15, 51, (51, 0, 3, 1, 0, [])), (3, 19, 50, (50, 0, 3, 2, 0, []))]
def xlinks12 : List xLk := [(3, 19, 51, (51, 0, 3, 2, 0, [])), (3, 9, 50, (50, 0, 3, 0, 0, [])), (3, 22, 70, (70, 0, 43, 2, 2, [])), (9, 3, 72, (73, 0, 0, 0, 0, [])), (9, 9, 151, (51, 0, 9, 4, 4, [])), (9, 15, 55, (55, 0, 9, 0, 0, [])), (9, 17, 151, (51, 0, 9, 6, 4, [])), (9, 21, 151, (51, 0, 9, 0, 0, [])), (9, 25, 151, (51, 0, 9, 1, 4, [])), (9, 29, 151, (51, 0, 9, 2, 4, [])), (9, 17, 50, (50, 0, 9, 6, 0, [])), (9, 15, 53, (53, 0, 10, 5, 0, [])), (9, 32, 72, (72, 0, 67, 0, 0, [])), (9, 9, 50, (50, 0, 9, 4, 0, [])), (9, 75, 50, (50, 0, 9, 5, 0, [])), (9, 81, 70, (70, 0, 65, 0, 9, [])), (9, 33, 50, (50, 0, 9, 3, 0, [])), (9, 37, 50, (50, 0, 8, 0, 0, [])), (9, 25, 50, (50, 0, 9, 1, 0, [])), (9, 40, 71, (71, 0, 77, 2, 0, []))]
def xlinks13 : List xLk := [(9, 46, 50, (50, 0, 8, 1, 0, [])), (9, 29, 50, (50, 0, 9, 2, 0, [])), (9, 78, 50, (50, 0, 10, 4, 0, [])), (9, 47, 51, (51, 0, 10, 0, 1, [])), (9, 47, 50, (50, 0, 10, 0, 0, [])), (9, 50, 50, (50, 0, 10, 1, 0, [])), (9, 53, 50, (50, 0, 11, 0, 0, [])), (9, 58, 50, (50, 0, 10, 2, 0, [])), (9, 61, 50, (50, 0, 11, 5, 0, [])), (9, 50, 51, (51, 0, 10, 1, 0, [])), (9, 58, 51, (51, 0, 10, 2, 0, [])), (9, 62, 50, (50, 0, 11, 7, 0, [])), (9, 65, 50, (50, 0, 11, 8, 0, [])), (9, 68, 70, (70, 0, 66, 2, 9, [])), (9, 72, 51, (51, 0, 10, 3, 0, [])), (9, 75, 51, (51, 0, 9, 5, 0, [])), (10, 1, 72, (73, 0, 0, 0, 0, [])), (11, 3, 72, (73, 0, 0, 0, 0, [])), (11, 9, 51, (51, 0, 11, 5, 0, [])), (11, 15, 151, (51, 0, 11, 0, 0, []))]
def xlinks14 : List xLk := [(11, 18, 151, (51, 0, 11, 1, 0, [])), (11, 21, 151, (51, 0, 11, 2, 4, [])), (11, 9, 50, (50, 0, 11, 5, 0, [])), (11, 25, 51, (51, 0, 11, 6, 0, [])), (11, 28, 51, (51, 0, 11, 7, 0, [])), (11, 31, 51, (51, 0, 11, 8, 0, [])), (11, 34, 51, (51, 0, 11, 9, 0, [])), (11, 37, 51, (51, 0, 11, 10, 0, [])), (11, 40, 50, (50, 0, 11, 4, 0, [])), (11, 40, 51, (51, 0, 11, 4, 0, [])), (11, 43, 51, (51, 0, 11, 3, 1, [])), (11, 25, 50, (50, 0, 11, 6, 0, [])), (8, 19, 70, (70, 0, 143, 1, 4, [])), (8, 25, 70, (70, 0, 144, 2, 4, [])), (8, 29, 70, (70, 0, 145, 1, 4, [])), (8, 38, 71, (71, 0, 74, 1, 0, [])), (8, 8, 53, (53, 0, 8, 3, 0, [])), (8, 32, 60, (60, 0, 2, 0, 0, [])), (8, 47, 72, (72, 0, 73, 3, 0, [])), (8, 34, 70, (70, 0, 146, 1, 4, []))]
def xlinks15 : List xLk := [(8, 44, 71, (71, 0, 76, 1, 0, [])), (8, 1, 72, (73, 0, 0, 0, 0, [])), (8, 7, 151, (51, 0, 8, 0, 4, [])), (8, 13, 151, (51, 0, 8, 1, 4, [])), (8, 16, 151, (51, 0, 8, 2, 4, [])), (14, 9, 70, (70, 0, 142, 0, 4, [])), (14, 15, 71, (71, 0, 75, 1, 0, [])), (14, 35, 70, (70, 0, 148, 0, 4, [])), (14, 43, 60, (60, 0, 0, 0, 0, [])), (14, 45, 70, (70, 0, 149, 1, 4, [])), (14, 31, 70, (70, 0, 143, 1, 4, [])), (14, 21, 71, (71, 0, 74, 1, 0, [])), (14, 25, 60, (60, 0, 3, 0, 0, [])), (14, 27, 70, (70, 0, 146, 1, 4, [])), (14, 39, 71, (71, 0, 78, 5, 0, [])), (12, 1, 72, (73, 0, 0, 0, 0, [])), (12, 7, 151, (51, 0, 12, 3, 4, [])), (12, 13, 151, (51, 0, 12, 5, 4, [])), (12, 16, 151, (51, 0, 12, 6, 4, [])), (12, 20, 151, (51, 0, 12, 8, 4, []))]
def xlinks16 : List xLk := [(12, 24, 151, (51, 0, 12, 10, 4, [])), (12, 27, 151, (51, 0, 12, 11, 4, [])), (12, 30, 151, (51, 0, 12, 12, 4, [])), (12, 33, 151, (51, 0, 12, 13, 4, [])), (12, 36, 151, (51, 0, 12, 14, 4, [])), (12, 39, 151, (51, 0, 12, 15, 4, [])), (12, 42, 151, (51, 0, 12, 16, 4, [])), (12, 45, 151, (51, 0, 12, 17, 4, [])), (12, 48, 151, (51, 0, 12, 18, 4, [])), (12, 51, 151, (51, 0, 12, 19, 4, [])), (12, 54, 151, (51, 0, 12, 20, 4, [])), (12, 57, 151, (51, 0, 12, 23, 4, [])), (12, 60, 151, (51, 0, 12, 24, 4, [])), (12, 63, 151, (51, 0, 12, 25, 4, [])), (12, 66, 151, (51, 0, 12, 26, 4, [])), (12, 69, 151, (51, 0, 12, 27, 4, [])), (12, 72, 151, (51, 0, 12, 28, 4, [])), (12, 75, 151, (51, 0, 12, 29, 4, [])), (12, 78, 151, (51, 0, 12, 30, 4, [])), (12, 81, 151, (51, 0, 12, 31, 4, []))]
def xlinks17 : List xLk := [(12, 84, 151, (51, 0, 12, 32, 4, [])), (12, 87, 151, (51, 0, 12, 35, 4, [])), (12, 90, 151, (51, 0, 12, 36, 4, [])), (12, 93, 151, (51, 0, 12, 37, 4, [])), (12, 96, 151, (51, 0, 12, 38, 4, [])), (12, 99, 151, (51, 0, 12, 39, 4, [])), (12, 102, 151, (51, 0, 12, 40, 4, [])), (12, 105, 151, (51, 0, 12, 41, 4, [])), (12, 108, 151, (51, 0, 12, 42, 4, [])), (12, 111, 151, (51, 0, 12, 43, 4, [])), (12, 114, 151, (51, 0, 12, 44, 4, [])), (12, 117, 151, (51, 0, 12, 45, 4, [])), (12, 120, 151, (51, 0, 12, 46, 4, [])), (12, 123, 151, (51, 0, 12, 0, 0, [])), (12, 127, 151, (51, 0, 12, 1, 0, [])), (12, 130, 151, (51, 0, 12, 2, 0, [])), (12, 30, 50, (50, 0, 12, 12, 0, [])), (12, 133, 50, (50, 0, 12, 4, 0, [])), (12, 7, 50, (50, 0, 12, 3, 0, [])), (12, 133, 51, (51, 0, 12, 4, 0, []))]
def xlinks18 : List xLk := [(12, 144, 70, (70, 0, 100, 2, 12, [])), (12, 159, 50, (50, 0, 12, 7, 0, [])), (12, 162, 70, (70, 0, 101, 3, 12, [])), (12, 159, 51, (51, 0, 12, 7, 0, [])), (12, 169, 50, (50, 0, 12, 9, 0, [])), (12, 24, 50, (50, 0, 12, 10, 0, [])), (12, 27, 50, (50, 0, 12, 11, 0, [])), (12, 172, 70, (70, 0, 102, 1, 12, [])), (12, 169, 51, (51, 0, 12, 9, 0, [])), (12, 20, 50, (50, 0, 12, 8, 0, [])), (12, 219, 70, (70, 0, 103, 1, 12, [])), (12, 223, 70, (70, 0, 104, 1, 12, [])), (12, 203, 50, (50, 0, 12, 22, 0, [])), (12, 60, 50, (50, 0, 12, 24, 0, [])), (12, 241, 70, (70, 0, 105, 1, 12, [])), (12, 247, 50, (50, 0, 12, 33, 0, [])), (12, 84, 50, (50, 0, 12, 32, 0, [])), (12, 187, 50, (50, 0, 12, 21, 0, [])), (12, 187, 51, (51, 0, 12, 21, 0, [])), (12, 190, 70, (70, 0, 106, 0, 12, []))]
def xlinks19 : List xLk := [(12, 194, 70, (70, 0, 107, 0, 12, [])), (12, 197, 70, (70, 0, 108, 1, 12, [])), (12, 200, 70, (70, 0, 109, 0, 12, [])), (12, 69, 50, (50, 0, 12, 27, 0, [])), (12, 81, 50, (50, 0, 12, 31, 0, [])), (12, 130, 50, (50, 0, 12, 2, 0, [])), (12, 206, 70, (70, 0, 110, 2, 12, [])), (12, 210, 50, (50, 0, 12, 34, 0, [])), (12, 213, 70, (70, 0, 111, 1, 12, [])), (12, 102, 50, (50, 0, 12, 40, 0, [])), (12, 117, 50, (50, 0, 12, 45, 0, [])), (12, 123, 50, (50, 0, 12, 0, 0, [])), (12, 114, 50, (50, 0, 12, 44, 0, [])), (12, 127, 50, (50, 0, 12, 1, 0, [])), (12, 216, 70, (70, 0, 112, 1, 12, [])), (12, 39, 50, (50, 0, 12, 15, 0, [])), (12, 42, 50, (50, 0, 12, 16, 0, [])), (12, 33, 50, (50, 0, 12, 13, 0, [])), (12, 36, 50, (50, 0, 12, 14, 0, [])), (12, 180, 70, (70, 0, 113, 2, 12, []))]
def xlinks20 : List xLk := [(12, 57, 50, (50, 0, 12, 23, 0, [])), (12, 87, 50, (50, 0, 12, 35, 0, [])), (12, 90, 50, (50, 0, 12, 36, 0, [])), (12, 210, 51, (51, 0, 12, 34, 0, [])), (12, 250, 70, (70, 0, 114, 1, 12, [])), (12, 93, 50, (50, 0, 12, 37, 0, [])), (12, 99, 50, (50, 0, 12, 39, 0, [])), (12, 105, 50, (50, 0, 12, 41, 0, [])), (12, 108, 50, (50, 0, 12, 42, 0, [])), (12, 111, 50, (50, 0, 12, 43, 0, [])), (12, 120, 50, (50, 0, 12, 46, 0, [])), (12, 66, 50, (50, 0, 12, 26, 0, [])), (12, 63, 50, (50, 0, 12, 25, 0, [])), (12, 253, 51, (51, 0, 12, 47, 0, [])), (12, 256, 50, (50, 0, 12, 48, 0, [])), (12, 140, 70, (70, 0, 115, 2, 12, [])), (12, 13, 50, (50, 0, 12, 5, 0, [])), (12, 16, 50, (50, 0, 12, 6, 0, [])), (12, 166, 70, (70, 0, 116, 2, 12, [])), (12, 226, 70, (70, 0, 117, 1, 12, []))]
def xlinks21 : List xLk := [(12, 230, 70, (70, 0, 118, 3, 12, [])), (12, 234, 70, (70, 0, 119, 3, 12, [])), (12, 203, 51, (51, 0, 12, 22, 0, [])), (12, 244, 70, (70, 0, 120, 2, 12, [])), (12, 247, 51, (51, 0, 12, 33, 0, [])), (12, 45, 50, (50, 0, 12, 17, 0, [])), (12, 48, 50, (50, 0, 12, 18, 0, [])), (12, 51, 50, (50, 0, 12, 19, 0, [])), (12, 183, 70, (70, 0, 121, 4, 12, [])), (12, 54, 50, (50, 0, 12, 20, 0, [])), (12, 72, 50, (50, 0, 12, 28, 0, [])), (12, 75, 50, (50, 0, 12, 29, 0, [])), (12, 78, 50, (50, 0, 12, 30, 0, [])), (12, 96, 50, (50, 0, 12, 38, 0, [])), (12, 259, 70, (70, 0, 122, 2, 12, [])), (12, 262, 70, (70, 0, 123, 3, 12, [])), (12, 265, 70, (70, 0, 124, 2, 12, [])), (12, 176, 70, (70, 0, 125, 1, 12, [])), (12, 136, 71, (71, 0, 126, 1, 0, [])), (12, 238, 70, (70, 0, 127, 2, 12, []))]
def xlinks22 : List xLk := [(12, 155, 70, (70, 0, 128, 4, 12, [])), (12, 148, 70, (70, 0, 129, 2, 12, [])), (12, 253, 50, (50, 0, 12, 47, 0, [])), (12, 256, 51, (51, 0, 12, 48, 0, [])), (12, 151, 71, (71, 0, 130, 1, 0, [])), (15, 3, 72, (73, 0, 0, 0, 0, [])), (15, 18, 52, (52, 1, 0, 0, 0, [])), (15, 15, 51, (51, 0, 1, 0, 4, [])), (15, 22, 51, (51, 0, 1, 1, 2, [])), (15, 79, 50, (50, 0, 1, 3, 0, [])), (15, 100, 70, (70, 0, 134, 1, 1, [])), (15, 83, 70, (70, 0, 135, 0, 1, [])), (15, 191, 71, (71, 0, 162, 1, 0, [])), (15, 15, 50, (50, 0, 1, 0, 0, [])), (15, 79, 51, (51, 0, 1, 3, 0, [])), (15, 22, 50, (50, 0, 1, 1, 0, [])), (15, 104, 70, (70, 0, 137, 1, 1, [])), (15, 108, 71, (71, 0, 169, 2, 0, [])), (15, 73, 51, (51, 0, 1, 2, 1, [])), (15, 114, 71, (71, 0, 173, 3, 0, []))]
def xlinks23 : List xLk := [(15, 39, 60, (0, 2147483647, 0, 0, 0, [])), (16, 265, 60, (0, 1431655765, 0, 0, 0, [])), (16, 266, 60, (0, 858993459, 0, 0, 0, [])), (16, 267, 60, (0, 252645135, 0, 0, 0, [])), (4, 9, 50, (50, 0, 4, 0, 0, [])), (4, 633, 70, (70, 0, 150, 2, 4, [])), (4, 505, 70, (70, 0, 148, 0, 4, [])), (4, 521, 71, (71, 0, 151, 3, 0, [])), (4, 492, 70, (70, 0, 152, 0, 4, [])), (4, 685, 71, (71, 0, 163, 3, 0, [])), (4, 681, 70, (70, 0, 144, 2, 4, [])), (4, 10, 61, (61, 0, 4, 0, 0, [])), (4, 10, 62, (62, 0, 4, 0, 0, [])), (4, 38, 52, (52, 1, 0, 0, 0, [])), (4, 15, 50, (50, 0, 4, 1, 0, [])), (4, 541, 71, (71, 0, 164, 2, 0, [])), (4, 489, 72, (72, 0, 153, 2, 0, [])), (4, 335, 70, (70, 0, 154, 0, 4, [])), (4, 495, 71, (71, 0, 165, 2, 0, [])), (4, 637, 71, (71, 0, 166, 4, 0, []))]
def xlinks24 : List xLk := [(4, 1053, 152, (63, 0, 0, 0, 0, [])), (4, 1062, 71, (71, 0, 174, 4, 0, [])), (4, 1, 72, (73, 0, 0, 0, 0, [])), (4, 552, 70, (70, 0, 138, 0, 1, [])), (4, 549, 170, (76, 0, 158, 0, 1, [])), (4, 1047, 70, (70, 0, 135, 0, 1, [])), (4, 15, 151, (51, 0, 4, 1, 2, [])), (4, 54, 71, (71, 0, 170, 3, 0, [])), (4, 9, 151, (51, 0, 4, 0, 4, [])), (4, 1048, 50, (50, 0, 1, 2, 0, [])), (4, 1059, 71, (71, 0, 175, 3, 0, [])), (1, 1, 72, (72, 0, 131, 1, 0, [])), (1, 343, 172, (75, 0, 132, 0, 1, [])), (1, 50, 172, (75, 0, 133, 1, 1, [])), (1, 18, 53, (53, 0, 4, 4, 0, [])), (1, 137, 72, (72, 0, 147, 1, 0, [])), (1, 333, 172, (75, 0, 136, 1, 1, [])), (18, 151, 60, (60, 0, 1, 0, 0, [])), (18, 1, 53, (53, 0, 4, 4, 0, [])), (18, 232, 71, (71, 0, 170, 3, 0, []))]
def xlinks25 : List xLk := [(18, 112, 72, (72, 0, 155, 2, 0, [])), (18, 9, 71, (71, 0, 156, 2, 0, [])), (18, 88, 71, (71, 0, 167, 1, 0, [])), (18, 92, 171, (77, 0, 0, 0, 0, [])), (18, 38, 171, (78, 0, 0, 0, 0, [])), (18, 95, 71, (71, 0, 168, 4, 0, [])), (19, 310, 180, (80, 0, 0, 0, 0, [])), (19, 311, 162, (81, 0, 0, 0, 0, [])), (19, 304, 171, (78, 0, 0, 0, 0, [])), (19, 150, 171, (79, 0, 0, 0, 0, [])), (19, 339, 71, (71, 0, 171, 3, 0, [])), (19, 343, 71, (71, 0, 172, 2, 0, [])), (20, 194, 171, (77, 0, 0, 0, 0, [])), (20, 200, 60, (0, 2147483639, 0, 0, 0, []))]
def xlinks : List xLk := xlinks0 ++ (xlinks1 ++ (xlinks2 ++ (xlinks3 ++ (xlinks4 ++ (xlinks5 ++ (xlinks6 ++ (xlinks7 ++ (xlinks8 ++ (xlinks9 ++ (xlinks10 ++ (xlinks11 ++ (xlinks12 ++ (xlinks13 ++ (xlinks14 ++ (xlinks15 ++ (xlinks16 ++ (xlinks17 ++ (xlinks18 ++ (xlinks19 ++ (xlinks20 ++ (xlinks21 ++ (xlinks22 ++ (xlinks23 ++ (xlinks24 ++ (xlinks25)))))))))))))))))))))))))
theorem xl0_0 : xlok (13, 7, 53, (53, 0, 0, 15, 0, [])) := ⟨0, 15, ("ZoneNet", xT0, 15), rfl, rfl, xin 25 (by decide +kernel), xin 26 (by decide +kernel), xin 1 (by decide +kernel)⟩
theorem xl0_1 : xlok (13, 9, 71, (71, 0, 1, 2, 0, [])) := ⟨1, 2, rfl, xce1, xin 952 (by decide +kernel), Or.inl (xin 951 (by decide +kernel))⟩
theorem xl0_2 : xlok (13, 15, 72, (72, 0, 2, 3, 0, [])) := Or.inr ⟨2, 3, rfl, xce2, rfl, rfl, xin 28 (by decide +kernel), Or.inl (xin 27 (by decide +kernel))⟩
theorem xl0_3 : xlok (13, 18, 53, (53, 0, 12, 49, 0, [])) := ⟨12, 49, ("ZoneNetModel", xT12, 49), rfl, rfl, xin 954 (by decide +kernel), xin 955 (by decide +kernel), xin 8 (by decide +kernel)⟩
theorem xl0_4 : xlok (13, 20, 72, (72, 0, 79, 3, 0, [])) := Or.inr ⟨79, 3, rfl, xce79, rfl, rfl, xin 957 (by decide +kernel), Or.inl (xin 956 (by decide +kernel))⟩
theorem xl0_5 : xlok (13, 21, 70, (70, 0, 3, 1, 0, [])) := ⟨3, 1, 0, ("ZoneNet", xT0, 15), rfl, rfl, xce3, xin 160 (by decide +kernel), Or.inl (xin 161 (by decide +kernel)), Or.inl (xin 159 (by decide +kernel))⟩
theorem xl0_6 : xlok (13, 25, 70, (70, 0, 80, 1, 12, [])) := ⟨80, 1, 12, ("ZoneNetModel", xT12, 49), rfl, rfl, xce80, xin 1110 (by decide +kernel), Or.inl (xin 1111 (by decide +kernel)), Or.inl (xin 1109 (by decide +kernel))⟩
theorem xl0_7 : xlok (13, 26, 70, (70, 0, 4, 0, 0, [])) := ⟨4, 0, 0, ("ZoneNet", xT0, 15), rfl, rfl, xce4, xin 266 (by decide +kernel), Or.inl (xin 267 (by decide +kernel)), Or.inl (xin 265 (by decide +kernel))⟩
theorem xl0_8 : xlok (13, 30, 70, (70, 0, 81, 0, 12, [])) := ⟨81, 0, 12, ("ZoneNetModel", xT12, 49), rfl, rfl, xce81, xin 1114 (by decide +kernel), Or.inl (xin 1115 (by decide +kernel)), Or.inl (xin 1113 (by decide +kernel))⟩
theorem xl0_9 : xlok (13, 31, 70, (70, 0, 5, 1, 0, [])) := ⟨5, 1, 0, ("ZoneNet", xT0, 15), rfl, rfl, xce5, xin 456 (by decide +kernel), Or.inl (xin 457 (by decide +kernel)), Or.inl (xin 455 (by decide +kernel))⟩
theorem xl0_10 : xlok (13, 35, 70, (70, 0, 82, 1, 12, [])) := ⟨82, 1, 12, ("ZoneNetModel", xT12, 49), rfl, rfl, xce82, xin 1133 (by decide +kernel), Or.inl (xin 1134 (by decide +kernel)), Or.inl (xin 1132 (by decide +kernel))⟩
theorem xl0_11 : xlok (13, 36, 70, (70, 0, 6, 2, 0, [])) := ⟨6, 2, 0, ("ZoneNet", xT0, 15), rfl, rfl, xce6, xin 550 (by decide +kernel), Or.inl (xin 551 (by decide +kernel)), Or.inl (xin 549 (by decide +kernel))⟩
theorem xl0_12 : xlok (13, 40, 70, (70, 0, 83, 2, 12, [])) := ⟨83, 2, 12, ("ZoneNetModel", xT12, 49), rfl, rfl, xce83, xin 1145 (by decide +kernel), Or.inl (xin 1146 (by decide +kernel)), Or.inl (xin 1144 (by decide +kernel))⟩
theorem xl0_13 : xlok (13, 41, 70, (70, 0, 7, 2, 0, [])) := ⟨7, 2, 0, ("ZoneNet", xT0, 15), rfl, rfl, xce7, xin 559 (by decide +kernel), Or.inl (xin 560 (by decide +kernel)), Or.inl (xin 558 (by decide +kernel))⟩
theorem xl0_14 : xlok (13, 45, 70, (70, 0, 84, 2, 12, [])) := ⟨84, 2, 12, ("ZoneNetModel", xT12, 49), rfl, rfl, xce84, xin 1149 (by decide +kernel), Or.inl (xin 1150 (by decide +kernel)), Or.inl (xin 1148 (by decide +kernel))⟩
theorem xl0_15 : xlok (13, 46, 70, (70, 0, 8, 1, 0, [])) := ⟨8, 1, 0, ("ZoneNet", xT0, 15), rfl, rfl, xce8, xin 571 (by decide +kernel), Or.inl (xin 572 (by decide +kernel)), Or.inl (xin 570 (by decide +kernel))⟩
theorem xl0_16 : xlok (13, 49, 70, (70, 0, 85, 1, 12, [])) := ⟨85, 1, 12, ("ZoneNetModel", xT12, 49), rfl, rfl, xce85, xin 1217 (by decide +kernel), Or.inl (xin 1218 (by decide +kernel)), Or.inl (xin 1216 (by decide +kernel))⟩
theorem xl0_17 : xlok (13, 50, 70, (70, 0, 9, 1, 0, [])) := ⟨9, 1, 0, ("ZoneNet", xT0, 15), rfl, rfl, xce9, xin 731 (by decide +kernel), Or.inl (xin 732 (by decide +kernel)), Or.inl (xin 730 (by decide +kernel))⟩
theorem xl0_18 : xlok (13, 54, 70, (70, 0, 86, 1, 12, [])) := ⟨86, 1, 12, ("ZoneNetModel", xT12, 49), rfl, rfl, xce86, xin 1256 (by decide +kernel), Or.inl (xin 1257 (by decide +kernel)), Or.inl (xin 1255 (by decide +kernel))⟩
theorem xl0_19 : xlok (13, 55, 70, (70, 0, 10, 1, 0, [])) := ⟨10, 1, 0, ("ZoneNet", xT0, 15), rfl, rfl, xce10, xin 739 (by decide +kernel), Or.inl (xin 740 (by decide +kernel)), Or.inl (xin 738 (by decide +kernel))⟩
theorem xlk0 : ∀ q ∈ xlinks0, xlok q := List.forall_mem_cons.mpr ⟨xl0_0, List.forall_mem_cons.mpr ⟨xl0_1, List.forall_mem_cons.mpr ⟨xl0_2, List.forall_mem_cons.mpr ⟨xl0_3, List.forall_mem_cons.mpr ⟨xl0_4, List.forall_mem_cons.mpr ⟨xl0_5, List.forall_mem_cons.mpr ⟨xl0_6, List.forall_mem_cons.mpr ⟨xl0_7, List.forall_mem_cons.mpr ⟨xl0_8, List.forall_mem_cons.mpr ⟨xl0_9, List.forall_mem_cons.mpr ⟨xl0_10, List.forall_mem_cons.mpr ⟨xl0_11, List.forall_mem_cons.mpr ⟨xl0_12, List.forall_mem_cons.mpr ⟨xl0_13, List.forall_mem_cons.mpr ⟨xl0_14, List.forall_mem_cons.mpr ⟨xl0_15, List.forall_mem_cons.mpr ⟨xl0_16, List.forall_mem_cons.mpr ⟨xl0_17, List.forall_mem_cons.mpr ⟨xl0_18, List.forall_mem_cons.mpr ⟨xl0_19, fun w h => absurd h List.not_mem_nil⟩⟩⟩⟩⟩⟩⟩⟩⟩⟩⟩⟩⟩⟩⟩⟩⟩⟩⟩⟩
theorem xl1_0 : xlok (13, 58, 70, (70, 0, 87, 1, 12, [])) := ⟨87, 1, 12, ("ZoneNetModel", xT12, 49), rfl, rfl, xce87, xin 1260 (by decide +kernel), Or.inl (xin 1261 (by decide +kernel)), Or.inl (xin 1259 (by decide +kernel))⟩
theorem xl1_1 : xlok (13, 59, 70, (70, 0, 11, 1, 0, [])) := ⟨11, 1, 0, ("ZoneNet", xT0, 15), rfl, rfl, xce11, xin 751 (by decide +kernel), Or.inl (xin 752 (by decide +kernel)), Or.inl (xin 750 (by decide +kernel))⟩
theorem xl1_2 : xlok (13, 62, 70, (70, 0, 88, 1, 12, [])) := ⟨88, 1, 12, ("ZoneNetModel", xT12, 49), rfl, rfl, xce88, xin 1272 (by decide +kernel), Or.inl (xin 1273 (by decide +kernel)), Or.inl (xin 1271 (by decide +kernel))⟩
theorem xl1_3 : xlok (13, 63, 70, (70, 0, 12, 0, 0, [])) := ⟨12, 0, 0, ("ZoneNet", xT0, 15), rfl, rfl, xce12, xin 755 (by decide +kernel), Or.inl (xin 756 (by decide +kernel)), Or.inl (xin 754 (by decide +kernel))⟩
theorem xl1_4 : xlok (13, 66, 70, (70, 0, 89, 0, 12, [])) := ⟨89, 0, 12, ("ZoneNetModel", xT12, 49), rfl, rfl, xce89, xin 1169 (by decide +kernel), Or.inl (xin 1170 (by decide +kernel)), Or.inl (xin 1168 (by decide +kernel))⟩
theorem xl1_5 : xlok (13, 67, 70, (70, 0, 13, 2, 0, [])) := ⟨13, 2, 0, ("ZoneNet", xT0, 15), rfl, rfl, xce13, xin 834 (by decide +kernel), Or.inl (xin 835 (by decide +kernel)), Or.inl (xin 833 (by decide +kernel))⟩
theorem xl1_6 : xlok (13, 70, 70, (70, 0, 90, 2, 12, [])) := ⟨90, 2, 12, ("ZoneNetModel", xT12, 49), rfl, rfl, xce90, xin 1165 (by decide +kernel), Or.inl (xin 1166 (by decide +kernel)), Or.inl (xin 1164 (by decide +kernel))⟩
theorem xl1_7 : xlok (13, 71, 70, (70, 0, 14, 2, 0, [])) := ⟨14, 2, 0, ("ZoneNet", xT0, 15), rfl, rfl, xce14, xin 843 (by decide +kernel), Or.inl (xin 844 (by decide +kernel)), Or.inl (xin 842 (by decide +kernel))⟩
theorem xl1_8 : xlok (13, 74, 70, (70, 0, 91, 2, 12, [])) := ⟨91, 2, 12, ("ZoneNetModel", xT12, 49), rfl, rfl, xce91, xin 1153 (by decide +kernel), Or.inl (xin 1154 (by decide +kernel)), Or.inl (xin 1152 (by decide +kernel))⟩
theorem xl1_9 : xlok (13, 75, 70, (70, 0, 15, 2, 0, [])) := ⟨15, 2, 0, ("ZoneNet", xT0, 15), rfl, rfl, xce15, xin 848 (by decide +kernel), Or.inl (xin 849 (by decide +kernel)), Or.inl (xin 847 (by decide +kernel))⟩
theorem xl1_10 : xlok (13, 78, 70, (70, 0, 92, 2, 12, [])) := ⟨92, 2, 12, ("ZoneNetModel", xT12, 49), rfl, rfl, xce92, xin 1280 (by decide +kernel), Or.inl (xin 1281 (by decide +kernel)), Or.inl (xin 1279 (by decide +kernel))⟩
theorem xl1_11 : xlok (13, 79, 70, (70, 0, 16, 4, 0, [])) := ⟨16, 4, 0, ("ZoneNet", xT0, 15), rfl, rfl, xce16, xin 908 (by decide +kernel), Or.inl (xin 909 (by decide +kernel)), Or.inl (xin 907 (by decide +kernel))⟩
theorem xl1_12 : xlok (13, 83, 70, (70, 0, 93, 4, 12, [])) := ⟨93, 4, 12, ("ZoneNetModel", xT12, 49), rfl, rfl, xce93, xin 1284 (by decide +kernel), Or.inl (xin 1285 (by decide +kernel)), Or.inl (xin 1283 (by decide +kernel))⟩
theorem xl1_13 : xlok (13, 84, 70, (70, 0, 17, 1, 0, [])) := ⟨17, 1, 0, ("ZoneNet", xT0, 15), rfl, rfl, xce17, xin 920 (by decide +kernel), Or.inl (xin 921 (by decide +kernel)), Or.inl (xin 919 (by decide +kernel))⟩
theorem xl1_14 : xlok (13, 87, 70, (70, 0, 94, 1, 12, [])) := ⟨94, 1, 12, ("ZoneNetModel", xT12, 49), rfl, rfl, xce94, xin 1292 (by decide +kernel), Or.inl (xin 1293 (by decide +kernel)), Or.inl (xin 1291 (by decide +kernel))⟩
theorem xl1_15 : xlok (13, 88, 70, (70, 0, 18, 1, 0, [])) := ⟨18, 1, 0, ("ZoneNet", xT0, 15), rfl, rfl, xce18, xin 924 (by decide +kernel), Or.inl (xin 925 (by decide +kernel)), Or.inl (xin 923 (by decide +kernel))⟩
theorem xl1_16 : xlok (13, 91, 70, (70, 0, 95, 1, 12, [])) := ⟨95, 1, 12, ("ZoneNetModel", xT12, 49), rfl, rfl, xce95, xin 1296 (by decide +kernel), Or.inl (xin 1297 (by decide +kernel)), Or.inl (xin 1295 (by decide +kernel))⟩
theorem xl1_17 : xlok (13, 92, 70, (70, 0, 19, 1, 0, [])) := ⟨19, 1, 0, ("ZoneNet", xT0, 15), rfl, rfl, xce19, xin 928 (by decide +kernel), Or.inl (xin 929 (by decide +kernel)), Or.inl (xin 927 (by decide +kernel))⟩
theorem xl1_18 : xlok (13, 95, 70, (70, 0, 96, 1, 12, [])) := ⟨96, 1, 12, ("ZoneNetModel", xT12, 49), rfl, rfl, xce96, xin 1300 (by decide +kernel), Or.inl (xin 1301 (by decide +kernel)), Or.inl (xin 1299 (by decide +kernel))⟩
theorem xl1_19 : xlok (13, 96, 70, (70, 0, 20, 2, 0, [])) := ⟨20, 2, 0, ("ZoneNet", xT0, 15), rfl, rfl, xce20, xin 932 (by decide +kernel), Or.inl (xin 933 (by decide +kernel)), Or.inl (xin 931 (by decide +kernel))⟩
theorem xlk1 : ∀ q ∈ xlinks1, xlok q := List.forall_mem_cons.mpr ⟨xl1_0, List.forall_mem_cons.mpr ⟨xl1_1, List.forall_mem_cons.mpr ⟨xl1_2, List.forall_mem_cons.mpr ⟨xl1_3, List.forall_mem_cons.mpr ⟨xl1_4, List.forall_mem_cons.mpr ⟨xl1_5, List.forall_mem_cons.mpr ⟨xl1_6, List.forall_mem_cons.mpr ⟨xl1_7, List.forall_mem_cons.mpr ⟨xl1_8, List.forall_mem_cons.mpr ⟨xl1_9, List.forall_mem_cons.mpr ⟨xl1_10, List.forall_mem_cons.mpr ⟨xl1_11, List.forall_mem_cons.mpr ⟨xl1_12, List.forall_mem_cons.mpr ⟨xl1_13, List.forall_mem_cons.mpr ⟨xl1_14, List.forall_mem_cons.mpr ⟨xl1_15, List.forall_mem_cons.mpr ⟨xl1_16, List.forall_mem_cons.mpr ⟨xl1_17, List.forall_mem_cons.mpr ⟨xl1_18, List.forall_mem_cons.mpr ⟨xl1_19, fun w h => absurd h List.not_mem_nil⟩⟩⟩⟩⟩⟩⟩⟩⟩⟩⟩⟩⟩⟩⟩⟩⟩⟩⟩⟩
theorem xl2_0 : xlok (13, 99, 70, (70, 0, 97, 2, 12, [])) := ⟨97, 2, 12, ("ZoneNetModel", xT12, 49), rfl, rfl, xce97, xin 1276 (by decide +kernel), Or.inl (xin 1277 (by decide +kernel)), Or.inl (xin 1275 (by decide +kernel))⟩
theorem xl2_1 : xlok (13, 100, 70, (70, 0, 21, 1, 0, [])) := ⟨21, 1, 0, ("ZoneNet", xT0, 15), rfl, rfl, xce21, xin 944 (by decide +kernel), Or.inl (xin 945 (by decide +kernel)), Or.inl (xin 943 (by decide +kernel))⟩
theorem xl2_2 : xlok (13, 104, 70, (70, 0, 98, 1, 12, [])) := ⟨98, 1, 12, ("ZoneNetModel", xT12, 49), rfl, rfl, xce98, xin 1304 (by decide +kernel), Or.inl (xin 1305 (by decide +kernel)), Or.inl (xin 1303 (by decide +kernel))⟩
theorem xl2_3 : xlok (13, 105, 70, (70, 0, 22, 0, 0, [])) := ⟨22, 0, 0, ("ZoneNet", xT0, 15), rfl, rfl, xce22, xin 948 (by decide +kernel), Or.inl (xin 949 (by decide +kernel)), Or.inl (xin 947 (by decide +kernel))⟩
theorem xl2_4 : xlok (13, 108, 70, (70, 0, 99, 0, 12, [])) := ⟨99, 0, 12, ("ZoneNetModel", xT12, 49), rfl, rfl, xce99, xin 1308 (by decide +kernel), Or.inl (xin 1309 (by decide +kernel)), Or.inl (xin 1307 (by decide +kernel))⟩
theorem xl2_5 : xlok (0, 1, 72, (73, 0, 0, 0, 0, [])) := Or.inl ⟨rfl, xin 30 (by decide +kernel), xin 31 (by decide +kernel), xin 32 (by decide +kernel)⟩
theorem xl2_6 : xlok (0, 7, 53, (53, 0, 1, 4, 0, [])) := ⟨1, 4, ("java/lang/StringBuilder", xT1, 4), rfl, rfl, xin 33 (by decide +kernel), xin 34 (by decide +kernel), xin 3 (by decide +kernel)⟩
theorem xl2_7 : xlok (0, 9, 72, (72, 0, 157, 0, 0, [])) := Or.inr ⟨157, 0, rfl, xce157, rfl, rfl, xin 36 (by decide +kernel), Or.inl (xin 35 (by decide +kernel))⟩
theorem xl2_8 : xlok (0, 10, 151, (51, 0, 0, 3, 4, [])) := ⟨0, 3, 4, rfl, ⟨("ZoneNet", xT0, 15), "ZoneNet", rfl, by decide, Or.inl rfl, Or.inl (xin 115 (by decide +kernel))⟩, ⟨("ZoneNet", xT0, 15), .object "java/lang/StringBuilder", rfl, rfl, (fun _ => rfl), by decide +kernel, rfl⟩⟩
theorem xl2_9 : xlok (0, 16, 53, (53, 0, 2, 4, 0, [])) := ⟨2, 4, ("ZoneNet$Mesh", xT2, 4), rfl, rfl, xin 66 (by decide +kernel), xin 67 (by decide +kernel), xin 6 (by decide +kernel)⟩
theorem xl2_10 : xlok (0, 18, 72, (72, 0, 32, 0, 0, [])) := Or.inr ⟨32, 0, rfl, xce32, rfl, rfl, xin 69 (by decide +kernel), Or.inr ⟨"ZoneNet", xin 68 (by decide +kernel)⟩⟩
theorem xl2_11 : xlok (0, 19, 151, (51, 0, 0, 4, 4, [])) := ⟨0, 4, 4, rfl, ⟨("ZoneNet", xT0, 15), "ZoneNet", rfl, by decide, Or.inl rfl, Or.inl (xin 116 (by decide +kernel))⟩, ⟨("ZoneNet", xT0, 15), .object "ZoneNet$Mesh", rfl, rfl, (fun _ => rfl), by decide +kernel, rfl⟩⟩
theorem xl2_12 : xlok (0, 23, 53, (53, 0, 3, 3, 0, [])) := ⟨3, 3, ("ZoneNet$Line", xT3, 3), rfl, rfl, xin 90 (by decide +kernel), xin 91 (by decide +kernel), xin 7 (by decide +kernel)⟩
theorem xl2_13 : xlok (0, 19, 50, (50, 0, 0, 4, 0, [])) := ⟨0, 4, rfl, ⟨("ZoneNet", xT0, 15), "ZoneNet", rfl, by decide, Or.inl rfl, Or.inl (xin 116 (by decide +kernel))⟩⟩
theorem xl2_14 : xlok (0, 25, 72, (72, 0, 58, 1, 0, [])) := Or.inr ⟨58, 1, rfl, xce58, rfl, rfl, xin 93 (by decide +kernel), Or.inr ⟨"ZoneNet", xin 92 (by decide +kernel)⟩⟩
theorem xl2_15 : xlok (0, 28, 151, (51, 0, 0, 5, 4, [])) := ⟨0, 5, 4, rfl, ⟨("ZoneNet", xT0, 15), "ZoneNet", rfl, by decide, Or.inl rfl, Or.inl (xin 117 (by decide +kernel))⟩, ⟨("ZoneNet", xT0, 15), .object "ZoneNet$Line", rfl, rfl, (fun _ => rfl), by decide +kernel, rfl⟩⟩
theorem xl2_16 : xlok (0, 32, 55, (55, 0, 6, 0, 0, [])) := ⟨6, ("ZoneNet$Service", xT9, 7), rfl, by decide, rfl, xin 108 (by decide +kernel), xin 109 (by decide +kernel)⟩
theorem xl2_17 : xlok (0, 34, 151, (51, 0, 0, 6, 4, [])) := ⟨0, 6, 4, rfl, ⟨("ZoneNet", xT0, 15), "ZoneNet", rfl, by decide, Or.inl rfl, Or.inl (xin 118 (by decide +kernel))⟩, ⟨("ZoneNet", xT0, 15), .array (.object "ZoneNet$Service"), rfl, rfl, (fun _ => rfl), by decide +kernel, rfl⟩⟩
theorem xl2_18 : xlok (0, 38, 55, (55, 0, 7, 0, 0, [])) := ⟨7, ("ZoneNet$Session", xT11, 13), rfl, by decide, rfl, xin 110 (by decide +kernel), xin 111 (by decide +kernel)⟩
theorem xl2_19 : xlok (0, 40, 151, (51, 0, 0, 8, 4, [])) := ⟨0, 8, 4, rfl, ⟨("ZoneNet", xT0, 15), "ZoneNet", rfl, by decide, Or.inl rfl, Or.inl (xin 120 (by decide +kernel))⟩, ⟨("ZoneNet", xT0, 15), .array (.object "ZoneNet$Session"), rfl, rfl, (fun _ => rfl), by decide +kernel, rfl⟩⟩
theorem xlk2 : ∀ q ∈ xlinks2, xlok q := List.forall_mem_cons.mpr ⟨xl2_0, List.forall_mem_cons.mpr ⟨xl2_1, List.forall_mem_cons.mpr ⟨xl2_2, List.forall_mem_cons.mpr ⟨xl2_3, List.forall_mem_cons.mpr ⟨xl2_4, List.forall_mem_cons.mpr ⟨xl2_5, List.forall_mem_cons.mpr ⟨xl2_6, List.forall_mem_cons.mpr ⟨xl2_7, List.forall_mem_cons.mpr ⟨xl2_8, List.forall_mem_cons.mpr ⟨xl2_9, List.forall_mem_cons.mpr ⟨xl2_10, List.forall_mem_cons.mpr ⟨xl2_11, List.forall_mem_cons.mpr ⟨xl2_12, List.forall_mem_cons.mpr ⟨xl2_13, List.forall_mem_cons.mpr ⟨xl2_14, List.forall_mem_cons.mpr ⟨xl2_15, List.forall_mem_cons.mpr ⟨xl2_16, List.forall_mem_cons.mpr ⟨xl2_17, List.forall_mem_cons.mpr ⟨xl2_18, List.forall_mem_cons.mpr ⟨xl2_19, fun w h => absurd h List.not_mem_nil⟩⟩⟩⟩⟩⟩⟩⟩⟩⟩⟩⟩⟩⟩⟩⟩⟩⟩⟩⟩
theorem xl3_0 : xlok (0, 44, 151, (51, 0, 0, 10, 4, [])) := ⟨0, 10, 4, rfl, ⟨("ZoneNet", xT0, 15), "ZoneNet", rfl, by decide, Or.inl rfl, Or.inl (xin 122 (by decide +kernel))⟩, ⟨("ZoneNet", xT0, 15), .array .int, rfl, rfl, (fun _ => rfl), by decide +kernel, rfl⟩⟩
theorem xl3_1 : xlok (0, 48, 151, (51, 0, 0, 12, 4, [])) := ⟨0, 12, 4, rfl, ⟨("ZoneNet", xT0, 15), "ZoneNet", rfl, by decide, Or.inl rfl, Or.inl (xin 124 (by decide +kernel))⟩, ⟨("ZoneNet", xT0, 15), .array .int, rfl, rfl, (fun _ => rfl), by decide +kernel, rfl⟩⟩
theorem xl3_2 : xlok (0, 51, 151, (51, 0, 0, 13, 4, [])) := ⟨0, 13, 4, rfl, ⟨("ZoneNet", xT0, 15), "ZoneNet", rfl, by decide, Or.inl rfl, Or.inl (xin 125 (by decide +kernel))⟩, ⟨("ZoneNet", xT0, 15), .array .int, rfl, rfl, (fun _ => rfl), by decide +kernel, rfl⟩⟩
theorem xl3_3 : xlok (0, 54, 151, (51, 0, 0, 0, 0, [])) := ⟨0, 0, 0, rfl, ⟨("ZoneNet", xT0, 15), "ZoneNet", rfl, by decide, Or.inl rfl, Or.inl (xin 112 (by decide +kernel))⟩, ⟨("ZoneNet", xT0, 15), .int, rfl, rfl, (fun _ => rfl), by decide +kernel, rfl⟩⟩
theorem xl3_4 : xlok (0, 58, 151, (51, 0, 0, 1, 0, [])) := ⟨0, 1, 0, rfl, ⟨("ZoneNet", xT0, 15), "ZoneNet", rfl, by decide, Or.inl rfl, Or.inl (xin 113 (by decide +kernel))⟩, ⟨("ZoneNet", xT0, 15), .int, rfl, rfl, (fun _ => rfl), by decide +kernel, rfl⟩⟩
theorem xl3_5 : xlok (0, 61, 151, (51, 0, 0, 2, 0, [])) := ⟨0, 2, 0, rfl, ⟨("ZoneNet", xT0, 15), "ZoneNet", rfl, by decide, Or.inl rfl, Or.inl (xin 114 (by decide +kernel))⟩, ⟨("ZoneNet", xT0, 15), .int, rfl, rfl, (fun _ => rfl), by decide +kernel, rfl⟩⟩
theorem xl3_6 : xlok (0, 10, 50, (50, 0, 0, 3, 0, [])) := ⟨0, 3, rfl, ⟨("ZoneNet", xT0, 15), "ZoneNet", rfl, by decide, Or.inl rfl, Or.inl (xin 115 (by decide +kernel))⟩⟩
theorem xl3_7 : xlok (0, 64, 70, (70, 0, 158, 0, 1, [])) := ⟨158, 0, 1, ("java/lang/StringBuilder", xT1, 4), rfl, rfl, xce158, xin 164 (by decide +kernel), Or.inl (xin 165 (by decide +kernel)), Or.inl (xin 163 (by decide +kernel))⟩
theorem xl3_8 : xlok (0, 68, 70, (70, 0, 159, 1, 1, [])) := ⟨159, 1, 1, ("java/lang/StringBuilder", xT1, 4), rfl, rfl, xce159, xin 171 (by decide +kernel), Or.inl (xin 172 (by decide +kernel)), Or.inl (xin 170 (by decide +kernel))⟩
theorem xl3_9 : xlok (0, 72, 70, (70, 0, 23, 0, 0, [])) := ⟨23, 0, 0, ("ZoneNet", xT0, 15), rfl, rfl, xce23, xin 271 (by decide +kernel), Or.inl (xsel ⟨"ZoneNet", "takeText", "()Ljava/lang/String;"⟩ 15 (by decide +kernel)), Or.inl (xin 269 (by decide +kernel))⟩
theorem xl3_10 : xlok (0, 76, 71, (71, 0, 74, 1, 0, [])) := ⟨74, 1, rfl, xce74, xin 348 (by decide +kernel), Or.inl (xin 347 (by decide +kernel))⟩
theorem xl3_11 : xlok (0, 82, 70, (70, 0, 33, 1, 2, [])) := ⟨33, 1, 2, ("ZoneNet$Mesh", xT2, 4), rfl, rfl, xce33, xin 437 (by decide +kernel), Or.inl (xin 438 (by decide +kernel)), Or.inl (xin 436 (by decide +kernel))⟩
theorem xl3_12 : xlok (0, 86, 70, (70, 0, 34, 1, 2, [])) := ⟨34, 1, 2, ("ZoneNet$Mesh", xT2, 4), rfl, rfl, xce34, xin 460 (by decide +kernel), Or.inl (xin 461 (by decide +kernel)), Or.inl (xin 459 (by decide +kernel))⟩
theorem xl3_13 : xlok (0, 90, 70, (70, 0, 35, 1, 2, [])) := ⟨35, 1, 2, ("ZoneNet$Mesh", xT2, 4), rfl, rfl, xce35, xin 554 (by decide +kernel), Or.inl (xin 555 (by decide +kernel)), Or.inl (xin 553 (by decide +kernel))⟩
theorem xl3_14 : xlok (0, 94, 50, (50, 0, 2, 2, 0, [])) := ⟨2, 2, rfl, ⟨("ZoneNet$Mesh", xT2, 4), "ZoneNet$Mesh", rfl, by decide, Or.inl rfl, Or.inr ⟨"ZoneNet", xin 79 (by decide +kernel)⟩⟩⟩
theorem xl3_15 : xlok (0, 98, 50, (50, 0, 6, 2, 0, [])) := ⟨6, 2, rfl, ⟨("ZoneNet$Router", xT6, 6), "ZoneNet$Router", rfl, by decide, Or.inl rfl, Or.inr ⟨"ZoneNet", xin 517 (by decide +kernel)⟩⟩⟩
theorem xl3_16 : xlok (0, 104, 70, (70, 0, 47, 1, 6, [])) := ⟨47, 1, 6, ("ZoneNet$Router", xT6, 6), rfl, rfl, xce47, xin 538 (by decide +kernel), Or.inl (xin 539 (by decide +kernel)), Or.inl (xin 557 (by decide +kernel))⟩
theorem xl3_17 : xlok (0, 108, 70, (70, 0, 36, 2, 2, [])) := ⟨36, 2, 2, ("ZoneNet$Mesh", xT2, 4), rfl, rfl, xce36, xin 563 (by decide +kernel), Or.inl (xin 564 (by decide +kernel)), Or.inl (xin 562 (by decide +kernel))⟩
theorem xl3_18 : xlok (0, 112, 71, (71, 0, 71, 1, 0, [])) := ⟨71, 1, rfl, xce71, xin 575 (by decide +kernel), Or.inl (xin 574 (by decide +kernel))⟩
theorem xl3_19 : xlok (0, 118, 70, (70, 0, 37, 1, 2, [])) := ⟨37, 1, 2, ("ZoneNet$Mesh", xT2, 4), rfl, rfl, xce37, xin 630 (by decide +kernel), Or.inl (xin 631 (by decide +kernel)), Or.inl (xin 629 (by decide +kernel))⟩
theorem xlk3 : ∀ q ∈ xlinks3, xlok q := List.forall_mem_cons.mpr ⟨xl3_0, List.forall_mem_cons.mpr ⟨xl3_1, List.forall_mem_cons.mpr ⟨xl3_2, List.forall_mem_cons.mpr ⟨xl3_3, List.forall_mem_cons.mpr ⟨xl3_4, List.forall_mem_cons.mpr ⟨xl3_5, List.forall_mem_cons.mpr ⟨xl3_6, List.forall_mem_cons.mpr ⟨xl3_7, List.forall_mem_cons.mpr ⟨xl3_8, List.forall_mem_cons.mpr ⟨xl3_9, List.forall_mem_cons.mpr ⟨xl3_10, List.forall_mem_cons.mpr ⟨xl3_11, List.forall_mem_cons.mpr ⟨xl3_12, List.forall_mem_cons.mpr ⟨xl3_13, List.forall_mem_cons.mpr ⟨xl3_14, List.forall_mem_cons.mpr ⟨xl3_15, List.forall_mem_cons.mpr ⟨xl3_16, List.forall_mem_cons.mpr ⟨xl3_17, List.forall_mem_cons.mpr ⟨xl3_18, List.forall_mem_cons.mpr ⟨xl3_19, fun w h => absurd h List.not_mem_nil⟩⟩⟩⟩⟩⟩⟩⟩⟩⟩⟩⟩⟩⟩⟩⟩⟩⟩⟩⟩
theorem xl4_0 : xlok (0, 51, 50, (50, 0, 0, 13, 0, [])) := ⟨0, 13, rfl, ⟨("ZoneNet", xT0, 15), "ZoneNet", rfl, by decide, Or.inl rfl, Or.inl (xin 125 (by decide +kernel))⟩⟩
theorem xl4_1 : xlok (0, 121, 70, (70, 0, 24, 3, 0, [])) := ⟨24, 3, 0, ("ZoneNet", xT0, 15), rfl, rfl, xce24, xin 635 (by decide +kernel), Or.inl (xsel ⟨"ZoneNet", "look", "(ILZoneNet$Pattern;[I)I"⟩ 15 (by decide +kernel)), Or.inl (xin 633 (by decide +kernel))⟩
theorem xl4_2 : xlok (0, 125, 50, (50, 0, 0, 7, 0, [])) := ⟨0, 7, rfl, ⟨("ZoneNet", xT0, 15), "ZoneNet", rfl, by decide, Or.inl rfl, Or.inl (xin 119 (by decide +kernel))⟩⟩
theorem xl4_3 : xlok (0, 34, 50, (50, 0, 0, 6, 0, [])) := ⟨0, 6, rfl, ⟨("ZoneNet", xT0, 15), "ZoneNet", rfl, by decide, Or.inl rfl, Or.inl (xin 118 (by decide +kernel))⟩⟩
theorem xl4_4 : xlok (0, 32, 53, (53, 0, 9, 7, 0, [])) := ⟨9, 7, ("ZoneNet$Service", xT9, 7), rfl, rfl, xin 108 (by decide +kernel), xin 675 (by decide +kernel), xin 22 (by decide +kernel)⟩
theorem xl4_5 : xlok (0, 128, 50, (50, 0, 8, 0, 0, [])) := ⟨8, 0, rfl, ⟨("ZoneNet$Pattern", xT8, 3), "ZoneNet$Pattern", rfl, by decide, Or.inl rfl, Or.inr ⟨"ZoneNet", xin 616 (by decide +kernel)⟩⟩⟩
theorem xl4_6 : xlok (0, 132, 50, (50, 0, 8, 1, 0, [])) := ⟨8, 1, rfl, ⟨("ZoneNet$Pattern", xT8, 3), "ZoneNet$Pattern", rfl, by decide, Or.inl rfl, Or.inr ⟨"ZoneNet", xin 619 (by decide +kernel)⟩⟩⟩
theorem xl4_7 : xlok (0, 135, 72, (72, 0, 60, 3, 0, [])) := Or.inr ⟨60, 3, rfl, xce60, rfl, rfl, xin 677 (by decide +kernel), Or.inr ⟨"ZoneNet", xin 676 (by decide +kernel)⟩⟩
theorem xl4_8 : xlok (0, 125, 51, (51, 0, 0, 7, 0, [])) := ⟨0, 7, 0, rfl, ⟨("ZoneNet", xT0, 15), "ZoneNet", rfl, by decide, Or.inl rfl, Or.inl (xin 119 (by decide +kernel))⟩, ⟨("ZoneNet", xT0, 15), .int, rfl, rfl, (fun z => nomatch z), by decide +kernel, rfl⟩⟩
theorem xl4_9 : xlok (0, 138, 70, (70, 0, 25, 1, 0, [])) := ⟨25, 1, 0, ("ZoneNet", xT0, 15), rfl, rfl, xce25, xin 736 (by decide +kernel), Or.inl (xsel ⟨"ZoneNet", "hasService", "(I)Z"⟩ 15 (by decide +kernel)), Or.inl (xin 734 (by decide +kernel))⟩
theorem xl4_10 : xlok (0, 141, 50, (50, 0, 9, 3, 0, [])) := ⟨9, 3, rfl, ⟨("ZoneNet$Service", xT9, 7), "ZoneNet$Service", rfl, by decide, Or.inl rfl, Or.inr ⟨"ZoneNet", xin 711 (by decide +kernel)⟩⟩⟩
theorem xl4_11 : xlok (0, 141, 51, (51, 0, 9, 3, 1, [])) := ⟨9, 3, 1, rfl, ⟨("ZoneNet$Service", xT9, 7), "ZoneNet$Service", rfl, by decide, Or.inl rfl, Or.inr ⟨"ZoneNet", xin 711 (by decide +kernel)⟩⟩, ⟨("ZoneNet$Service", xT9, 7), .boolean, rfl, rfl, (fun z => nomatch z), by decide +kernel, rfl⟩⟩
theorem xl4_12 : xlok (0, 144, 71, (71, 0, 72, 1, 0, [])) := ⟨72, 1, rfl, xce72, xin 743 (by decide +kernel), Or.inl (xin 742 (by decide +kernel))⟩
theorem xl4_13 : xlok (0, 44, 50, (50, 0, 0, 10, 0, [])) := ⟨0, 10, rfl, ⟨("ZoneNet", xT0, 15), "ZoneNet", rfl, by decide, Or.inl rfl, Or.inl (xin 122 (by decide +kernel))⟩⟩
theorem xl4_14 : xlok (0, 147, 51, (51, 0, 0, 11, 0, [])) := ⟨0, 11, 0, rfl, ⟨("ZoneNet", xT0, 15), "ZoneNet", rfl, by decide, Or.inl rfl, Or.inl (xin 123 (by decide +kernel))⟩, ⟨("ZoneNet", xT0, 15), .int, rfl, rfl, (fun z => nomatch z), by decide +kernel, rfl⟩⟩
theorem xl4_15 : xlok (0, 147, 50, (50, 0, 0, 11, 0, [])) := ⟨0, 11, rfl, ⟨("ZoneNet", xT0, 15), "ZoneNet", rfl, by decide, Or.inl rfl, Or.inl (xin 123 (by decide +kernel))⟩⟩
theorem xl4_16 : xlok (0, 150, 50, (50, 0, 0, 14, 0, [])) := ⟨0, 14, rfl, ⟨("ZoneNet", xT0, 15), "ZoneNet", rfl, by decide, Or.inl rfl, Or.inl (xin 126 (by decide +kernel))⟩⟩
theorem xl4_17 : xlok (0, 150, 51, (51, 0, 0, 14, 0, [])) := ⟨0, 14, 0, rfl, ⟨("ZoneNet", xT0, 15), "ZoneNet", rfl, by decide, Or.inl rfl, Or.inl (xin 126 (by decide +kernel))⟩, ⟨("ZoneNet", xT0, 15), .int, rfl, rfl, (fun z => nomatch z), by decide +kernel, rfl⟩⟩
theorem xl4_18 : xlok (0, 153, 70, (70, 0, 38, 0, 2, [])) := ⟨38, 0, 2, ("ZoneNet$Mesh", xT2, 4), rfl, rfl, xce38, xin 759 (by decide +kernel), Or.inl (xin 760 (by decide +kernel)), Or.inl (xin 758 (by decide +kernel))⟩
theorem xl4_19 : xlok (0, 156, 70, (70, 0, 39, 0, 2, [])) := ⟨39, 0, 2, ("ZoneNet$Mesh", xT2, 4), rfl, rfl, xce39, xin 767 (by decide +kernel), Or.inl (xin 768 (by decide +kernel)), Or.inl (xin 766 (by decide +kernel))⟩
theorem xlk4 : ∀ q ∈ xlinks4, xlok q := List.forall_mem_cons.mpr ⟨xl4_0, List.forall_mem_cons.mpr ⟨xl4_1, List.forall_mem_cons.mpr ⟨xl4_2, List.forall_mem_cons.mpr ⟨xl4_3, List.forall_mem_cons.mpr ⟨xl4_4, List.forall_mem_cons.mpr ⟨xl4_5, List.forall_mem_cons.mpr ⟨xl4_6, List.forall_mem_cons.mpr ⟨xl4_7, List.forall_mem_cons.mpr ⟨xl4_8, List.forall_mem_cons.mpr ⟨xl4_9, List.forall_mem_cons.mpr ⟨xl4_10, List.forall_mem_cons.mpr ⟨xl4_11, List.forall_mem_cons.mpr ⟨xl4_12, List.forall_mem_cons.mpr ⟨xl4_13, List.forall_mem_cons.mpr ⟨xl4_14, List.forall_mem_cons.mpr ⟨xl4_15, List.forall_mem_cons.mpr ⟨xl4_16, List.forall_mem_cons.mpr ⟨xl4_17, List.forall_mem_cons.mpr ⟨xl4_18, List.forall_mem_cons.mpr ⟨xl4_19, fun w h => absurd h List.not_mem_nil⟩⟩⟩⟩⟩⟩⟩⟩⟩⟩⟩⟩⟩⟩⟩⟩⟩⟩⟩⟩
theorem xl5_0 : xlok (0, 159, 70, (70, 0, 40, 0, 2, [])) := ⟨40, 0, 2, ("ZoneNet$Mesh", xT2, 4), rfl, rfl, xce40, xin 776 (by decide +kernel), Or.inl (xin 777 (by decide +kernel)), Or.inl (xin 775 (by decide +kernel))⟩
theorem xl5_1 : xlok (0, 162, 70, (70, 0, 41, 0, 2, [])) := ⟨41, 0, 2, ("ZoneNet$Mesh", xT2, 4), rfl, rfl, xce41, xin 788 (by decide +kernel), Or.inl (xin 789 (by decide +kernel)), Or.inl (xin 787 (by decide +kernel))⟩
theorem xl5_2 : xlok (0, 165, 70, (70, 0, 26, 0, 0, [])) := ⟨26, 0, 0, ("ZoneNet", xT0, 15), rfl, rfl, xce26, xin 793 (by decide +kernel), Or.inl (xsel ⟨"ZoneNet", "releaseOld", "()V"⟩ 15 (by decide +kernel)), Or.inl (xin 791 (by decide +kernel))⟩
theorem xl5_3 : xlok (0, 168, 70, (70, 0, 27, 0, 0, [])) := ⟨27, 0, 0, ("ZoneNet", xT0, 15), rfl, rfl, xce27, xin 801 (by decide +kernel), Or.inl (xsel ⟨"ZoneNet", "countSilence", "()V"⟩ 15 (by decide +kernel)), Or.inl (xin 799 (by decide +kernel))⟩
theorem xl5_4 : xlok (0, 171, 70, (70, 0, 28, 0, 0, [])) := ⟨28, 0, 0, ("ZoneNet", xT0, 15), rfl, rfl, xce28, xin 810 (by decide +kernel), Or.inl (xsel ⟨"ZoneNet", "tryAgain", "()V"⟩ 15 (by decide +kernel)), Or.inl (xin 808 (by decide +kernel))⟩
theorem xl5_5 : xlok (0, 174, 70, (70, 0, 42, 1, 2, [])) := ⟨42, 1, 2, ("ZoneNet$Mesh", xT2, 4), rfl, rfl, xce42, xin 567 (by decide +kernel), Or.inl (xin 568 (by decide +kernel)), Or.inl (xin 837 (by decide +kernel))⟩
theorem xl5_6 : xlok (0, 177, 50, (50, 0, 6, 3, 0, [])) := ⟨6, 3, rfl, ⟨("ZoneNet$Router", xT6, 6), "ZoneNet$Router", rfl, by decide, Or.inl rfl, Or.inr ⟨"ZoneNet", xin 521 (by decide +kernel)⟩⟩⟩
theorem xl5_7 : xlok (0, 181, 70, (70, 0, 51, 0, 7, [])) := ⟨51, 0, 7, ("ZoneNet$Entry", xT7, 7), rfl, rfl, xce51, xin 839 (by decide +kernel), Or.inl (xin 840 (by decide +kernel)), Or.inl (xin 838 (by decide +kernel))⟩
theorem xl5_8 : xlok (0, 186, 70, (70, 0, 43, 2, 2, [])) := ⟨43, 2, 2, ("ZoneNet$Mesh", xT2, 4), rfl, rfl, xce43, xin 659 (by decide +kernel), Or.inl (xin 660 (by decide +kernel)), Or.inl (xin 846 (by decide +kernel))⟩
theorem xl5_9 : xlok (0, 189, 50, (50, 0, 9, 0, 0, [])) := ⟨9, 0, rfl, ⟨("ZoneNet$Service", xT9, 7), "ZoneNet$Service", rfl, by decide, Or.inl rfl, Or.inr ⟨"ZoneNet", xin 707 (by decide +kernel)⟩⟩⟩
theorem xl5_10 : xlok (0, 192, 70, (70, 0, 44, 2, 2, [])) := ⟨44, 2, 2, ("ZoneNet$Mesh", xT2, 4), rfl, rfl, xce44, xin 655 (by decide +kernel), Or.inl (xin 656 (by decide +kernel)), Or.inl (xin 803 (by decide +kernel))⟩
theorem xl5_11 : xlok (0, 196, 50, (50, 0, 0, 9, 0, [])) := ⟨0, 9, rfl, ⟨("ZoneNet", xT0, 15), "ZoneNet", rfl, by decide, Or.inl rfl, Or.inl (xin 121 (by decide +kernel))⟩⟩
theorem xl5_12 : xlok (0, 40, 50, (50, 0, 0, 8, 0, [])) := ⟨0, 8, rfl, ⟨("ZoneNet", xT0, 15), "ZoneNet", rfl, by decide, Or.inl rfl, Or.inl (xin 120 (by decide +kernel))⟩⟩
theorem xl5_13 : xlok (0, 38, 53, (53, 0, 11, 13, 0, [])) := ⟨11, 13, ("ZoneNet$Session", xT11, 13), rfl, rfl, xin 110 (by decide +kernel), xin 851 (by decide +kernel), xin 24 (by decide +kernel)⟩
theorem xl5_14 : xlok (0, 199, 72, (72, 0, 68, 3, 0, [])) := Or.inr ⟨68, 3, rfl, xce68, rfl, rfl, xin 853 (by decide +kernel), Or.inr ⟨"ZoneNet", xin 852 (by decide +kernel)⟩⟩
theorem xl5_15 : xlok (0, 196, 51, (51, 0, 0, 9, 0, [])) := ⟨0, 9, 0, rfl, ⟨("ZoneNet", xT0, 15), "ZoneNet", rfl, by decide, Or.inl rfl, Or.inl (xin 121 (by decide +kernel))⟩, ⟨("ZoneNet", xT0, 15), .int, rfl, rfl, (fun z => nomatch z), by decide +kernel, rfl⟩⟩
theorem xl5_16 : xlok (0, 202, 70, (70, 0, 29, 1, 0, [])) := ⟨29, 1, 0, ("ZoneNet", xT0, 15), rfl, rfl, xce29, xin 913 (by decide +kernel), Or.inl (xsel ⟨"ZoneNet", "hasSession", "(I)Z"⟩ 15 (by decide +kernel)), Or.inl (xin 911 (by decide +kernel))⟩
theorem xl5_17 : xlok (0, 205, 50, (50, 0, 11, 3, 0, [])) := ⟨11, 3, rfl, ⟨("ZoneNet$Session", xT11, 13), "ZoneNet$Session", rfl, by decide, Or.inl rfl, Or.inr ⟨"ZoneNet", xin 863 (by decide +kernel)⟩⟩⟩
theorem xl5_18 : xlok (0, 208, 50, (50, 0, 11, 6, 0, [])) := ⟨11, 6, rfl, ⟨("ZoneNet$Session", xT11, 13), "ZoneNet$Session", rfl, by decide, Or.inl rfl, Or.inr ⟨"ZoneNet", xin 869 (by decide +kernel)⟩⟩⟩
theorem xl5_19 : xlok (0, 211, 70, (70, 0, 69, 3, 11, [])) := ⟨69, 3, 11, ("ZoneNet$Session", xT11, 13), rfl, rfl, xce69, xin 916 (by decide +kernel), Or.inl (xin 917 (by decide +kernel)), Or.inl (xin 915 (by decide +kernel))⟩
theorem xlk5 : ∀ q ∈ xlinks5, xlok q := List.forall_mem_cons.mpr ⟨xl5_0, List.forall_mem_cons.mpr ⟨xl5_1, List.forall_mem_cons.mpr ⟨xl5_2, List.forall_mem_cons.mpr ⟨xl5_3, List.forall_mem_cons.mpr ⟨xl5_4, List.forall_mem_cons.mpr ⟨xl5_5, List.forall_mem_cons.mpr ⟨xl5_6, List.forall_mem_cons.mpr ⟨xl5_7, List.forall_mem_cons.mpr ⟨xl5_8, List.forall_mem_cons.mpr ⟨xl5_9, List.forall_mem_cons.mpr ⟨xl5_10, List.forall_mem_cons.mpr ⟨xl5_11, List.forall_mem_cons.mpr ⟨xl5_12, List.forall_mem_cons.mpr ⟨xl5_13, List.forall_mem_cons.mpr ⟨xl5_14, List.forall_mem_cons.mpr ⟨xl5_15, List.forall_mem_cons.mpr ⟨xl5_16, List.forall_mem_cons.mpr ⟨xl5_17, List.forall_mem_cons.mpr ⟨xl5_18, List.forall_mem_cons.mpr ⟨xl5_19, fun w h => absurd h List.not_mem_nil⟩⟩⟩⟩⟩⟩⟩⟩⟩⟩⟩⟩⟩⟩⟩⟩⟩⟩⟩⟩
theorem xl6_0 : xlok (0, 215, 70, (70, 0, 30, 1, 0, [])) := ⟨30, 1, 0, ("ZoneNet", xT0, 15), rfl, rfl, xce30, xin 814 (by decide +kernel), Or.inl (xsel ⟨"ZoneNet", "tryOnce", "(LZoneNet$Session;)V"⟩ 15 (by decide +kernel)), Or.inl (xin 812 (by decide +kernel))⟩
theorem xl6_1 : xlok (0, 219, 50, (50, 0, 11, 5, 0, [])) := ⟨11, 5, rfl, ⟨("ZoneNet$Session", xT11, 13), "ZoneNet$Session", rfl, by decide, Or.inl rfl, Or.inr ⟨"ZoneNet", xin 867 (by decide +kernel)⟩⟩⟩
theorem xl6_2 : xlok (0, 222, 50, (50, 0, 11, 12, 0, [])) := ⟨11, 12, rfl, ⟨("ZoneNet$Session", xT11, 13), "ZoneNet$Session", rfl, by decide, Or.inl rfl, Or.inr ⟨"ZoneNet", xin 879 (by decide +kernel)⟩⟩⟩
theorem xl6_3 : xlok (0, 225, 50, (50, 0, 11, 9, 0, [])) := ⟨11, 9, rfl, ⟨("ZoneNet$Session", xT11, 13), "ZoneNet$Session", rfl, by decide, Or.inl rfl, Or.inr ⟨"ZoneNet", xin 875 (by decide +kernel)⟩⟩⟩
theorem xl6_4 : xlok (0, 228, 70, (70, 0, 61, 1, 9, [])) := ⟨61, 1, 9, ("ZoneNet$Service", xT9, 7), rfl, rfl, xce61, xin 936 (by decide +kernel), Or.inl (xin 937 (by decide +kernel)), Or.inl (xin 935 (by decide +kernel))⟩
theorem xl6_5 : xlok (0, 28, 50, (50, 0, 0, 5, 0, [])) := ⟨0, 5, rfl, ⟨("ZoneNet", xT0, 15), "ZoneNet", rfl, by decide, Or.inl rfl, Or.inl (xin 117 (by decide +kernel))⟩⟩
theorem xl6_6 : xlok (0, 231, 51, (51, 0, 3, 1, 0, [])) := ⟨3, 1, 0, rfl, ⟨("ZoneNet$Line", xT3, 3), "ZoneNet$Line", rfl, by decide, Or.inl rfl, Or.inr ⟨"ZoneNet", xin 98 (by decide +kernel)⟩⟩, ⟨("ZoneNet$Line", xT3, 3), .int, rfl, rfl, (fun z => nomatch z), by decide +kernel, rfl⟩⟩
theorem xl6_7 : xlok (0, 234, 50, (50, 0, 3, 2, 0, [])) := ⟨3, 2, rfl, ⟨("ZoneNet$Line", xT3, 3), "ZoneNet$Line", rfl, by decide, Or.inl rfl, Or.inr ⟨"ZoneNet", xin 100 (by decide +kernel)⟩⟩⟩
theorem xl6_8 : xlok (0, 237, 70, (70, 0, 160, 0, 1, [])) := ⟨160, 0, 1, ("java/lang/StringBuilder", xT1, 4), rfl, rfl, xce160, xin 274 (by decide +kernel), Or.inl (xin 275 (by decide +kernel)), Or.inl (xin 273 (by decide +kernel))⟩
theorem xl6_9 : xlok (0, 240, 70, (70, 0, 161, 1, 1, [])) := ⟨161, 1, 1, ("java/lang/StringBuilder", xT1, 4), rfl, rfl, xce161, xin 328 (by decide +kernel), Or.inl (xin 329 (by decide +kernel)), Or.inl (xin 327 (by decide +kernel))⟩
theorem xl6_10 : xlok (0, 244, 50, (50, 0, 8, 2, 0, [])) := ⟨8, 2, rfl, ⟨("ZoneNet$Pattern", xT8, 3), "ZoneNet$Pattern", rfl, by decide, Or.inl rfl, Or.inr ⟨"ZoneNet", xin 621 (by decide +kernel)⟩⟩⟩
theorem xl6_11 : xlok (0, 48, 50, (50, 0, 0, 12, 0, [])) := ⟨0, 12, rfl, ⟨("ZoneNet", xT0, 15), "ZoneNet", rfl, by decide, Or.inl rfl, Or.inl (xin 124 (by decide +kernel))⟩⟩
theorem xl6_12 : xlok (0, 247, 70, (70, 0, 45, 3, 2, [])) := ⟨45, 3, 2, ("ZoneNet$Mesh", xT2, 4), rfl, rfl, xce45, xin 638 (by decide +kernel), Or.inl (xin 639 (by decide +kernel)), Or.inl (xin 637 (by decide +kernel))⟩
theorem xl6_13 : xlok (0, 251, 70, (70, 0, 62, 1, 9, [])) := ⟨62, 1, 9, ("ZoneNet$Service", xT9, 7), rfl, rfl, xce62, xin 664 (by decide +kernel), Or.inl (xin 665 (by decide +kernel)), Or.inl (xin 663 (by decide +kernel))⟩
theorem xl6_14 : xlok (0, 61, 50, (50, 0, 0, 2, 0, [])) := ⟨0, 2, rfl, ⟨("ZoneNet", xT0, 15), "ZoneNet", rfl, by decide, Or.inl rfl, Or.inl (xin 114 (by decide +kernel))⟩⟩
theorem xl6_15 : xlok (0, 255, 70, (70, 0, 63, 1, 9, [])) := ⟨63, 1, 9, ("ZoneNet$Service", xT9, 7), rfl, rfl, xce63, xin 796 (by decide +kernel), Or.inl (xin 797 (by decide +kernel)), Or.inl (xin 795 (by decide +kernel))⟩
theorem xl6_16 : xlok (0, 258, 50, (50, 0, 11, 1, 0, [])) := ⟨11, 1, rfl, ⟨("ZoneNet$Session", xT11, 13), "ZoneNet$Session", rfl, by decide, Or.inl rfl, Or.inr ⟨"ZoneNet", xin 859 (by decide +kernel)⟩⟩⟩
theorem xl6_17 : xlok (0, 259, 50, (50, 0, 11, 2, 0, [])) := ⟨11, 2, rfl, ⟨("ZoneNet$Session", xT11, 13), "ZoneNet$Session", rfl, by decide, Or.inl rfl, Or.inr ⟨"ZoneNet", xin 861 (by decide +kernel)⟩⟩⟩
theorem xl6_18 : xlok (0, 263, 70, (70, 0, 70, 1, 11, [])) := ⟨70, 1, 11, ("ZoneNet$Session", xT11, 13), rfl, rfl, xce70, xin 805 (by decide +kernel), Or.inl (xin 806 (by decide +kernel)), Or.inl (xin 804 (by decide +kernel))⟩
theorem xl6_19 : xlok (0, 266, 50, (50, 0, 11, 11, 0, [])) := ⟨11, 11, rfl, ⟨("ZoneNet$Session", xT11, 13), "ZoneNet$Session", rfl, by decide, Or.inl rfl, Or.inr ⟨"ZoneNet", xin 878 (by decide +kernel)⟩⟩⟩
theorem xlk6 : ∀ q ∈ xlinks6, xlok q := List.forall_mem_cons.mpr ⟨xl6_0, List.forall_mem_cons.mpr ⟨xl6_1, List.forall_mem_cons.mpr ⟨xl6_2, List.forall_mem_cons.mpr ⟨xl6_3, List.forall_mem_cons.mpr ⟨xl6_4, List.forall_mem_cons.mpr ⟨xl6_5, List.forall_mem_cons.mpr ⟨xl6_6, List.forall_mem_cons.mpr ⟨xl6_7, List.forall_mem_cons.mpr ⟨xl6_8, List.forall_mem_cons.mpr ⟨xl6_9, List.forall_mem_cons.mpr ⟨xl6_10, List.forall_mem_cons.mpr ⟨xl6_11, List.forall_mem_cons.mpr ⟨xl6_12, List.forall_mem_cons.mpr ⟨xl6_13, List.forall_mem_cons.mpr ⟨xl6_14, List.forall_mem_cons.mpr ⟨xl6_15, List.forall_mem_cons.mpr ⟨xl6_16, List.forall_mem_cons.mpr ⟨xl6_17, List.forall_mem_cons.mpr ⟨xl6_18, List.forall_mem_cons.mpr ⟨xl6_19, fun w h => absurd h List.not_mem_nil⟩⟩⟩⟩⟩⟩⟩⟩⟩⟩⟩⟩⟩⟩⟩⟩⟩⟩⟩⟩
theorem xl7_0 : xlok (0, 54, 50, (50, 0, 0, 0, 0, [])) := ⟨0, 0, rfl, ⟨("ZoneNet", xT0, 15), "ZoneNet", rfl, by decide, Or.inl rfl, Or.inl (xin 112 (by decide +kernel))⟩⟩
theorem xl7_1 : xlok (0, 269, 50, (50, 0, 11, 10, 0, [])) := ⟨11, 10, rfl, ⟨("ZoneNet$Session", xT11, 13), "ZoneNet$Session", rfl, by decide, Or.inl rfl, Or.inr ⟨"ZoneNet", xin 877 (by decide +kernel)⟩⟩⟩
theorem xl7_2 : xlok (0, 58, 50, (50, 0, 0, 1, 0, [])) := ⟨0, 1, rfl, ⟨("ZoneNet", xT0, 15), "ZoneNet", rfl, by decide, Or.inl rfl, Or.inl (xin 113 (by decide +kernel))⟩⟩
theorem xl7_3 : xlok (0, 208, 51, (51, 0, 11, 6, 0, [])) := ⟨11, 6, 0, rfl, ⟨("ZoneNet$Session", xT11, 13), "ZoneNet$Session", rfl, by decide, Or.inl rfl, Or.inr ⟨"ZoneNet", xin 869 (by decide +kernel)⟩⟩, ⟨("ZoneNet$Session", xT11, 13), .int, rfl, rfl, (fun z => nomatch z), by decide +kernel, rfl⟩⟩
theorem xl7_4 : xlok (0, 269, 51, (51, 0, 11, 10, 0, [])) := ⟨11, 10, 0, rfl, ⟨("ZoneNet$Session", xT11, 13), "ZoneNet$Session", rfl, by decide, Or.inl rfl, Or.inr ⟨"ZoneNet", xin 877 (by decide +kernel)⟩⟩, ⟨("ZoneNet$Session", xT11, 13), .int, rfl, rfl, (fun z => nomatch z), by decide +kernel, rfl⟩⟩
theorem xl7_5 : xlok (0, 266, 51, (51, 0, 11, 11, 0, [])) := ⟨11, 11, 0, rfl, ⟨("ZoneNet$Session", xT11, 13), "ZoneNet$Session", rfl, by decide, Or.inl rfl, Or.inr ⟨"ZoneNet", xin 878 (by decide +kernel)⟩⟩, ⟨("ZoneNet$Session", xT11, 13), .int, rfl, rfl, (fun z => nomatch z), by decide +kernel, rfl⟩⟩
theorem xl7_6 : xlok (0, 272, 70, (70, 0, 59, 2, 3, [])) := ⟨59, 2, 3, ("ZoneNet$Line", xT3, 3), rfl, rfl, xce59, xin 817 (by decide +kernel), Or.inl (xin 818 (by decide +kernel)), Or.inl (xin 816 (by decide +kernel))⟩
theorem xl7_7 : xlok (0, 275, 70, (70, 0, 64, 1, 9, [])) := ⟨64, 1, 9, ("ZoneNet$Service", xT9, 7), rfl, rfl, xce64, xin 822 (by decide +kernel), Or.inl (xin 823 (by decide +kernel)), Or.inl (xin 821 (by decide +kernel))⟩
theorem xl7_8 : xlok (0, 279, 51, (51, 0, 10, 4, 0, [])) := ⟨10, 4, 0, rfl, ⟨("ZoneNet$Listed", xT10, 5), "ZoneNet$Listed", rfl, by decide, Or.inl rfl, Or.inr ⟨"ZoneNet", xin 694 (by decide +kernel)⟩⟩, ⟨("ZoneNet$Listed", xT10, 5), .int, rfl, rfl, (fun z => nomatch z), by decide +kernel, rfl⟩⟩
theorem xl7_9 : xlok (0, 284, 70, (70, 0, 31, 1, 0, [])) := ⟨31, 1, 0, ("ZoneNet", xT0, 15), rfl, rfl, xce31, xin 831 (by decide +kernel), Or.inl (xsel ⟨"ZoneNet", "sendMissingParts", "(LZoneNet$Session;)V"⟩ 15 (by decide +kernel)), Or.inl (xin 829 (by decide +kernel))⟩
theorem xl7_10 : xlok (0, 287, 50, (50, 0, 10, 3, 0, [])) := ⟨10, 3, rfl, ⟨("ZoneNet$Listed", xT10, 5), "ZoneNet$Listed", rfl, by decide, Or.inl rfl, Or.inr ⟨"ZoneNet", xin 692 (by decide +kernel)⟩⟩⟩
theorem xl7_11 : xlok (0, 222, 51, (51, 0, 11, 12, 0, [])) := ⟨11, 12, 0, rfl, ⟨("ZoneNet$Session", xT11, 13), "ZoneNet$Session", rfl, by decide, Or.inl rfl, Or.inr ⟨"ZoneNet", xin 879 (by decide +kernel)⟩⟩, ⟨("ZoneNet$Session", xT11, 13), .int, rfl, rfl, (fun z => nomatch z), by decide +kernel, rfl⟩⟩
theorem xl7_12 : xlok (0, 290, 51, (51, 0, 10, 0, 1, [])) := ⟨10, 0, 1, rfl, ⟨("ZoneNet$Listed", xT10, 5), "ZoneNet$Listed", rfl, by decide, Or.inl rfl, Or.inr ⟨"ZoneNet", xin 688 (by decide +kernel)⟩⟩, ⟨("ZoneNet$Listed", xT10, 5), .boolean, rfl, rfl, (fun z => nomatch z), by decide +kernel, rfl⟩⟩
theorem xl7_13 : xlok (0, 225, 51, (51, 0, 11, 9, 0, [])) := ⟨11, 9, 0, rfl, ⟨("ZoneNet$Session", xT11, 13), "ZoneNet$Session", rfl, by decide, Or.inl rfl, Or.inr ⟨"ZoneNet", xin 875 (by decide +kernel)⟩⟩, ⟨("ZoneNet$Session", xT11, 13), .int, rfl, rfl, (fun z => nomatch z), by decide +kernel, rfl⟩⟩
theorem xl7_14 : xlok (2, 3, 72, (73, 0, 0, 0, 0, [])) := Or.inl ⟨rfl, xin 71 (by decide +kernel), xin 31 (by decide +kernel), xin 32 (by decide +kernel)⟩
theorem xl7_15 : xlok (2, 9, 55, (55, 0, 4, 0, 0, [])) := ⟨4, ("ZoneNet$Network", xT5, 2), rfl, by decide, rfl, xin 72 (by decide +kernel), xin 73 (by decide +kernel)⟩
theorem xl7_16 : xlok (2, 11, 151, (51, 0, 2, 0, 4, [])) := ⟨2, 0, 4, rfl, ⟨("ZoneNet$Mesh", xT2, 4), "ZoneNet$Mesh", rfl, by decide, Or.inl rfl, Or.inl (xin 76 (by decide +kernel))⟩, ⟨("ZoneNet$Mesh", xT2, 4), .array (.object "ZoneNet$Network"), rfl, rfl, (fun _ => rfl), by decide +kernel, rfl⟩⟩
theorem xl7_17 : xlok (2, 17, 55, (55, 0, 5, 0, 0, [])) := ⟨5, ("ZoneNet$Router", xT6, 6), rfl, by decide, rfl, xin 74 (by decide +kernel), xin 75 (by decide +kernel)⟩
theorem xl7_18 : xlok (2, 19, 151, (51, 0, 2, 2, 4, [])) := ⟨2, 2, 4, rfl, ⟨("ZoneNet$Mesh", xT2, 4), "ZoneNet$Mesh", rfl, by decide, Or.inl rfl, Or.inl (xin 78 (by decide +kernel))⟩, ⟨("ZoneNet$Mesh", xT2, 4), .array (.object "ZoneNet$Router"), rfl, rfl, (fun _ => rfl), by decide +kernel, rfl⟩⟩
theorem xl7_19 : xlok (2, 23, 50, (50, 0, 2, 1, 0, [])) := ⟨2, 1, rfl, ⟨("ZoneNet$Mesh", xT2, 4), "ZoneNet$Mesh", rfl, by decide, Or.inl rfl, Or.inl (xin 77 (by decide +kernel))⟩⟩
theorem xlk7 : ∀ q ∈ xlinks7, xlok q := List.forall_mem_cons.mpr ⟨xl7_0, List.forall_mem_cons.mpr ⟨xl7_1, List.forall_mem_cons.mpr ⟨xl7_2, List.forall_mem_cons.mpr ⟨xl7_3, List.forall_mem_cons.mpr ⟨xl7_4, List.forall_mem_cons.mpr ⟨xl7_5, List.forall_mem_cons.mpr ⟨xl7_6, List.forall_mem_cons.mpr ⟨xl7_7, List.forall_mem_cons.mpr ⟨xl7_8, List.forall_mem_cons.mpr ⟨xl7_9, List.forall_mem_cons.mpr ⟨xl7_10, List.forall_mem_cons.mpr ⟨xl7_11, List.forall_mem_cons.mpr ⟨xl7_12, List.forall_mem_cons.mpr ⟨xl7_13, List.forall_mem_cons.mpr ⟨xl7_14, List.forall_mem_cons.mpr ⟨xl7_15, List.forall_mem_cons.mpr ⟨xl7_16, List.forall_mem_cons.mpr ⟨xl7_17, List.forall_mem_cons.mpr ⟨xl7_18, List.forall_mem_cons.mpr ⟨xl7_19, fun w h => absurd h List.not_mem_nil⟩⟩⟩⟩⟩⟩⟩⟩⟩⟩⟩⟩⟩⟩⟩⟩⟩⟩⟩⟩
theorem xl8_0 : xlok (2, 11, 50, (50, 0, 2, 0, 0, [])) := ⟨2, 0, rfl, ⟨("ZoneNet$Mesh", xT2, 4), "ZoneNet$Mesh", rfl, by decide, Or.inl rfl, Or.inl (xin 76 (by decide +kernel))⟩⟩
theorem xl8_1 : xlok (2, 9, 53, (53, 0, 5, 2, 0, [])) := ⟨5, 2, ("ZoneNet$Network", xT5, 2), rfl, rfl, xin 72 (by decide +kernel), xin 440 (by decide +kernel), xin 17 (by decide +kernel)⟩
theorem xl8_2 : xlok (2, 38, 72, (72, 0, 57, 1, 0, [])) := Or.inr ⟨57, 1, rfl, xce57, rfl, rfl, xin 442 (by decide +kernel), Or.inr ⟨"ZoneNet", xin 441 (by decide +kernel)⟩⟩
theorem xl8_3 : xlok (2, 23, 51, (51, 0, 2, 1, 0, [])) := ⟨2, 1, 0, rfl, ⟨("ZoneNet$Mesh", xT2, 4), "ZoneNet$Mesh", rfl, by decide, Or.inl rfl, Or.inl (xin 77 (by decide +kernel))⟩, ⟨("ZoneNet$Mesh", xT2, 4), .int, rfl, rfl, (fun z => nomatch z), by decide +kernel, rfl⟩⟩
theorem xl8_4 : xlok (2, 41, 71, (71, 0, 139, 1, 0, [])) := ⟨139, 1, rfl, xce139, xin 464 (by decide +kernel), Or.inl (xin 463 (by decide +kernel))⟩
theorem xl8_5 : xlok (2, 27, 50, (50, 0, 2, 3, 0, [])) := ⟨2, 3, rfl, ⟨("ZoneNet$Mesh", xT2, 4), "ZoneNet$Mesh", rfl, by decide, Or.inl rfl, Or.inl (xin 80 (by decide +kernel))⟩⟩
theorem xl8_6 : xlok (2, 19, 50, (50, 0, 2, 2, 0, [])) := ⟨2, 2, rfl, ⟨("ZoneNet$Mesh", xT2, 4), "ZoneNet$Mesh", rfl, by decide, Or.inl rfl, Or.inl (xin 78 (by decide +kernel))⟩⟩
theorem xl8_7 : xlok (2, 17, 53, (53, 0, 6, 6, 0, [])) := ⟨6, 6, ("ZoneNet$Router", xT6, 6), rfl, rfl, xin 74 (by decide +kernel), xin 469 (by decide +kernel), xin 19 (by decide +kernel)⟩
theorem xl8_8 : xlok (2, 47, 72, (72, 0, 48, 1, 0, [])) := Or.inr ⟨48, 1, rfl, xce48, rfl, rfl, xin 471 (by decide +kernel), Or.inr ⟨"ZoneNet", xin 470 (by decide +kernel)⟩⟩
theorem xl8_9 : xlok (2, 50, 70, (70, 0, 47, 1, 6, [])) := ⟨47, 1, 6, ("ZoneNet$Router", xT6, 6), rfl, rfl, xce47, xin 538 (by decide +kernel), Or.inl (xin 539 (by decide +kernel)), Or.inl (xin 537 (by decide +kernel))⟩
theorem xl8_10 : xlok (2, 27, 51, (51, 0, 2, 3, 0, [])) := ⟨2, 3, 0, rfl, ⟨("ZoneNet$Mesh", xT2, 4), "ZoneNet$Mesh", rfl, by decide, Or.inl rfl, Or.inl (xin 80 (by decide +kernel))⟩, ⟨("ZoneNet$Mesh", xT2, 4), .int, rfl, rfl, (fun z => nomatch z), by decide +kernel, rfl⟩⟩
theorem xl8_11 : xlok (2, 30, 70, (70, 0, 42, 1, 2, [])) := ⟨42, 1, 2, ("ZoneNet$Mesh", xT2, 4), rfl, rfl, xce42, xin 567 (by decide +kernel), Or.inl (xin 568 (by decide +kernel)), Or.inl (xin 566 (by decide +kernel))⟩
theorem xl8_12 : xlok (2, 34, 50, (50, 0, 5, 1, 0, [])) := ⟨5, 1, rfl, ⟨("ZoneNet$Network", xT5, 2), "ZoneNet$Network", rfl, by decide, Or.inl rfl, Or.inr ⟨"ZoneNet", xin 448 (by decide +kernel)⟩⟩⟩
theorem xl8_13 : xlok (2, 102, 70, (70, 0, 49, 0, 6, [])) := ⟨49, 0, 6, ("ZoneNet$Router", xT6, 6), rfl, rfl, xce49, xin 763 (by decide +kernel), Or.inl (xin 764 (by decide +kernel)), Or.inl (xin 762 (by decide +kernel))⟩
theorem xl8_14 : xlok (2, 60, 50, (50, 0, 6, 3, 0, [])) := ⟨6, 3, rfl, ⟨("ZoneNet$Router", xT6, 6), "ZoneNet$Router", rfl, by decide, Or.inl rfl, Or.inr ⟨"ZoneNet", xin 520 (by decide +kernel)⟩⟩⟩
theorem xl8_15 : xlok (2, 106, 70, (70, 0, 54, 0, 7, [])) := ⟨54, 0, 7, ("ZoneNet$Entry", xT7, 7), rfl, rfl, xce54, xin 771 (by decide +kernel), Or.inl (xin 772 (by decide +kernel)), Or.inl (xin 770 (by decide +kernel))⟩
theorem xl8_16 : xlok (2, 109, 50, (50, 0, 6, 2, 0, [])) := ⟨6, 2, rfl, ⟨("ZoneNet$Router", xT6, 6), "ZoneNet$Router", rfl, by decide, Or.inl rfl, Or.inr ⟨"ZoneNet", xin 518 (by decide +kernel)⟩⟩⟩
theorem xl8_17 : xlok (2, 112, 70, (70, 0, 50, 2, 6, [])) := ⟨50, 2, 6, ("ZoneNet$Router", xT6, 6), rfl, rfl, xce50, xin 780 (by decide +kernel), Or.inl (xin 781 (by decide +kernel)), Or.inl (xin 779 (by decide +kernel))⟩
theorem xl8_18 : xlok (2, 95, 50, (50, 0, 7, 5, 0, [])) := ⟨7, 5, rfl, ⟨("ZoneNet$Entry", xT7, 7), "ZoneNet$Entry", rfl, by decide, Or.inl rfl, Or.inr ⟨"ZoneNet", xin 495 (by decide +kernel)⟩⟩⟩
theorem xl8_19 : xlok (2, 116, 51, (51, 0, 7, 6, 1, [])) := ⟨7, 6, 1, rfl, ⟨("ZoneNet$Entry", xT7, 7), "ZoneNet$Entry", rfl, by decide, Or.inl rfl, Or.inr ⟨"ZoneNet", xin 496 (by decide +kernel)⟩⟩, ⟨("ZoneNet$Entry", xT7, 7), .boolean, rfl, rfl, (fun z => nomatch z), by decide +kernel, rfl⟩⟩
theorem xlk8 : ∀ q ∈ xlinks8, xlok q := List.forall_mem_cons.mpr ⟨xl8_0, List.forall_mem_cons.mpr ⟨xl8_1, List.forall_mem_cons.mpr ⟨xl8_2, List.forall_mem_cons.mpr ⟨xl8_3, List.forall_mem_cons.mpr ⟨xl8_4, List.forall_mem_cons.mpr ⟨xl8_5, List.forall_mem_cons.mpr ⟨xl8_6, List.forall_mem_cons.mpr ⟨xl8_7, List.forall_mem_cons.mpr ⟨xl8_8, List.forall_mem_cons.mpr ⟨xl8_9, List.forall_mem_cons.mpr ⟨xl8_10, List.forall_mem_cons.mpr ⟨xl8_11, List.forall_mem_cons.mpr ⟨xl8_12, List.forall_mem_cons.mpr ⟨xl8_13, List.forall_mem_cons.mpr ⟨xl8_14, List.forall_mem_cons.mpr ⟨xl8_15, List.forall_mem_cons.mpr ⟨xl8_16, List.forall_mem_cons.mpr ⟨xl8_17, List.forall_mem_cons.mpr ⟨xl8_18, List.forall_mem_cons.mpr ⟨xl8_19, fun w h => absurd h List.not_mem_nil⟩⟩⟩⟩⟩⟩⟩⟩⟩⟩⟩⟩⟩⟩⟩⟩⟩⟩⟩⟩
theorem xl9_0 : xlok (2, 64, 50, (50, 0, 7, 0, 0, [])) := ⟨7, 0, rfl, ⟨("ZoneNet$Entry", xT7, 7), "ZoneNet$Entry", rfl, by decide, Or.inl rfl, Or.inr ⟨"ZoneNet", xin 483 (by decide +kernel)⟩⟩⟩
theorem xl9_1 : xlok (2, 76, 50, (50, 0, 7, 2, 0, [])) := ⟨7, 2, rfl, ⟨("ZoneNet$Entry", xT7, 7), "ZoneNet$Entry", rfl, by decide, Or.inl rfl, Or.inr ⟨"ZoneNet", xin 488 (by decide +kernel)⟩⟩⟩
theorem xl9_2 : xlok (2, 57, 70, (70, 0, 35, 1, 2, [])) := ⟨35, 1, 2, ("ZoneNet$Mesh", xT2, 4), rfl, rfl, xce35, xin 554 (by decide +kernel), Or.inl (xin 555 (by decide +kernel)), Or.inl (xin 662 (by decide +kernel))⟩
theorem xl9_3 : xlok (2, 116, 50, (50, 0, 7, 6, 0, [])) := ⟨7, 6, rfl, ⟨("ZoneNet$Entry", xT7, 7), "ZoneNet$Entry", rfl, by decide, Or.inl rfl, Or.inr ⟨"ZoneNet", xin 496 (by decide +kernel)⟩⟩⟩
theorem xl9_4 : xlok (2, 95, 51, (51, 0, 7, 5, 1, [])) := ⟨7, 5, 1, rfl, ⟨("ZoneNet$Entry", xT7, 7), "ZoneNet$Entry", rfl, by decide, Or.inl rfl, Or.inr ⟨"ZoneNet", xin 495 (by decide +kernel)⟩⟩, ⟨("ZoneNet$Entry", xT7, 7), .boolean, rfl, rfl, (fun z => nomatch z), by decide +kernel, rfl⟩⟩
theorem xl9_5 : xlok (2, 54, 70, (70, 0, 46, 1, 2, [])) := ⟨46, 1, 2, ("ZoneNet$Mesh", xT2, 4), rfl, rfl, xce46, xin 652 (by decide +kernel), Or.inl (xsel ⟨"ZoneNet$Mesh", "firstRouter", "(I)I"⟩ 4 (by decide +kernel)), Or.inl (xin 650 (by decide +kernel))⟩
theorem xl9_6 : xlok (2, 70, 50, (50, 0, 7, 4, 0, [])) := ⟨7, 4, rfl, ⟨("ZoneNet$Entry", xT7, 7), "ZoneNet$Entry", rfl, by decide, Or.inl rfl, Or.inr ⟨"ZoneNet", xin 493 (by decide +kernel)⟩⟩⟩
theorem xl9_7 : xlok (2, 73, 50, (50, 0, 7, 1, 0, [])) := ⟨7, 1, rfl, ⟨("ZoneNet$Entry", xT7, 7), "ZoneNet$Entry", rfl, by decide, Or.inl rfl, Or.inr ⟨"ZoneNet", xin 486 (by decide +kernel)⟩⟩⟩
theorem xl9_8 : xlok (2, 79, 70, (70, 0, 43, 2, 2, [])) := ⟨43, 2, 2, ("ZoneNet$Mesh", xT2, 4), rfl, rfl, xce43, xin 659 (by decide +kernel), Or.inl (xin 660 (by decide +kernel)), Or.inl (xin 658 (by decide +kernel))⟩
theorem xl9_9 : xlok (2, 83, 60, (60, 0, 2, 0, 0, [])) := Or.inl ⟨2, "*", rfl, by decide +kernel⟩
theorem xl9_10 : xlok (2, 85, 70, (70, 0, 146, 1, 4, [])) := ⟨146, 1, 4, ("java/lang/String", xT4, 2), rfl, rfl, xce146, xin 643 (by decide +kernel), Or.inl (xin 644 (by decide +kernel)), Or.inl (xin 642 (by decide +kernel))⟩
theorem xl9_11 : xlok (2, 91, 50, (50, 0, 5, 0, 0, [])) := ⟨5, 0, rfl, ⟨("ZoneNet$Network", xT5, 2), "ZoneNet$Network", rfl, by decide, Or.inl rfl, Or.inr ⟨"ZoneNet", xin 446 (by decide +kernel)⟩⟩⟩
theorem xl9_12 : xlok (2, 98, 70, (70, 0, 44, 2, 2, [])) := ⟨44, 2, 2, ("ZoneNet$Mesh", xT2, 4), rfl, rfl, xce44, xin 655 (by decide +kernel), Or.inl (xin 656 (by decide +kernel)), Or.inl (xin 654 (by decide +kernel))⟩
theorem xl9_13 : xlok (2, 119, 50, (50, 0, 6, 0, 0, [])) := ⟨6, 0, rfl, ⟨("ZoneNet$Router", xT6, 6), "ZoneNet$Router", rfl, by decide, Or.inl rfl, Or.inr ⟨"ZoneNet", xin 514 (by decide +kernel)⟩⟩⟩
theorem xl9_14 : xlok (6, 39, 51, (51, 0, 6, 2, 1, [])) := ⟨6, 2, 1, rfl, ⟨("ZoneNet$Router", xT6, 6), "ZoneNet$Router", rfl, by decide, Or.inl rfl, Or.inl (xin 516 (by decide +kernel))⟩, ⟨("ZoneNet$Router", xT6, 6), .boolean, rfl, rfl, (fun z => nomatch z), by decide +kernel, rfl⟩⟩
theorem xl9_15 : xlok (6, 39, 50, (50, 0, 6, 2, 0, [])) := ⟨6, 2, rfl, ⟨("ZoneNet$Router", xT6, 6), "ZoneNet$Router", rfl, by decide, Or.inl rfl, Or.inl (xin 516 (by decide +kernel))⟩⟩
theorem xl9_16 : xlok (6, 9, 50, (50, 0, 6, 0, 0, [])) := ⟨6, 0, rfl, ⟨("ZoneNet$Router", xT6, 6), "ZoneNet$Router", rfl, by decide, Or.inl rfl, Or.inl (xin 513 (by decide +kernel))⟩⟩
theorem xl9_17 : xlok (6, 17, 50, (50, 0, 6, 3, 0, [])) := ⟨6, 3, rfl, ⟨("ZoneNet$Router", xT6, 6), "ZoneNet$Router", rfl, by decide, Or.inl rfl, Or.inl (xin 519 (by decide +kernel))⟩⟩
theorem xl9_18 : xlok (6, 43, 70, (70, 0, 52, 1, 7, [])) := ⟨52, 1, 7, ("ZoneNet$Entry", xT7, 7), rfl, rfl, xce52, xin 542 (by decide +kernel), Or.inl (xin 543 (by decide +kernel)), Or.inl (xin 541 (by decide +kernel))⟩
theorem xl9_19 : xlok (6, 47, 70, (70, 0, 53, 0, 7, [])) := ⟨53, 0, 7, ("ZoneNet$Entry", xT7, 7), rfl, rfl, xce53, xin 546 (by decide +kernel), Or.inl (xin 547 (by decide +kernel)), Or.inl (xin 545 (by decide +kernel))⟩
theorem xlk9 : ∀ q ∈ xlinks9, xlok q := List.forall_mem_cons.mpr ⟨xl9_0, List.forall_mem_cons.mpr ⟨xl9_1, List.forall_mem_cons.mpr ⟨xl9_2, List.forall_mem_cons.mpr ⟨xl9_3, List.forall_mem_cons.mpr ⟨xl9_4, List.forall_mem_cons.mpr ⟨xl9_5, List.forall_mem_cons.mpr ⟨xl9_6, List.forall_mem_cons.mpr ⟨xl9_7, List.forall_mem_cons.mpr ⟨xl9_8, List.forall_mem_cons.mpr ⟨xl9_9, List.forall_mem_cons.mpr ⟨xl9_10, List.forall_mem_cons.mpr ⟨xl9_11, List.forall_mem_cons.mpr ⟨xl9_12, List.forall_mem_cons.mpr ⟨xl9_13, List.forall_mem_cons.mpr ⟨xl9_14, List.forall_mem_cons.mpr ⟨xl9_15, List.forall_mem_cons.mpr ⟨xl9_16, List.forall_mem_cons.mpr ⟨xl9_17, List.forall_mem_cons.mpr ⟨xl9_18, List.forall_mem_cons.mpr ⟨xl9_19, fun w h => absurd h List.not_mem_nil⟩⟩⟩⟩⟩⟩⟩⟩⟩⟩⟩⟩⟩⟩⟩⟩⟩⟩⟩⟩
theorem xl10_0 : xlok (6, 3, 72, (73, 0, 0, 0, 0, [])) := Or.inl ⟨rfl, xin 473 (by decide +kernel), xin 31 (by decide +kernel), xin 32 (by decide +kernel)⟩
theorem xl10_1 : xlok (6, 9, 151, (51, 0, 6, 0, 4, [])) := ⟨6, 0, 4, rfl, ⟨("ZoneNet$Router", xT6, 6), "ZoneNet$Router", rfl, by decide, Or.inl rfl, Or.inl (xin 513 (by decide +kernel))⟩, ⟨("ZoneNet$Router", xT6, 6), .array .boolean, rfl, rfl, (fun _ => rfl), by decide +kernel, rfl⟩⟩
theorem xl10_2 : xlok (6, 15, 55, (55, 0, 8, 0, 0, [])) := ⟨8, ("ZoneNet$Entry", xT7, 7), rfl, by decide, rfl, xin 474 (by decide +kernel), xin 475 (by decide +kernel)⟩
theorem xl10_3 : xlok (6, 17, 151, (51, 0, 6, 3, 4, [])) := ⟨6, 3, 4, rfl, ⟨("ZoneNet$Router", xT6, 6), "ZoneNet$Router", rfl, by decide, Or.inl rfl, Or.inl (xin 519 (by decide +kernel))⟩, ⟨("ZoneNet$Router", xT6, 6), .array (.object "ZoneNet$Entry"), rfl, rfl, (fun _ => rfl), by decide +kernel, rfl⟩⟩
theorem xl10_4 : xlok (6, 21, 151, (51, 0, 6, 4, 4, [])) := ⟨6, 4, 4, rfl, ⟨("ZoneNet$Router", xT6, 6), "ZoneNet$Router", rfl, by decide, Or.inl rfl, Or.inl (xin 522 (by decide +kernel))⟩, ⟨("ZoneNet$Router", xT6, 6), .array .int, rfl, rfl, (fun _ => rfl), by decide +kernel, rfl⟩⟩
theorem xl10_5 : xlok (6, 25, 151, (51, 0, 6, 5, 4, [])) := ⟨6, 5, 4, rfl, ⟨("ZoneNet$Router", xT6, 6), "ZoneNet$Router", rfl, by decide, Or.inl rfl, Or.inl (xin 523 (by decide +kernel))⟩, ⟨("ZoneNet$Router", xT6, 6), .array .int, rfl, rfl, (fun _ => rfl), by decide +kernel, rfl⟩⟩
theorem xl10_6 : xlok (6, 15, 53, (53, 0, 7, 7, 0, [])) := ⟨7, 7, ("ZoneNet$Entry", xT7, 7), rfl, rfl, xin 474 (by decide +kernel), xin 476 (by decide +kernel), xin 20 (by decide +kernel)⟩
theorem xl10_7 : xlok (6, 28, 72, (72, 0, 55, 0, 0, [])) := Or.inr ⟨55, 0, rfl, xce55, rfl, rfl, xin 478 (by decide +kernel), Or.inr ⟨"ZoneNet", xin 477 (by decide +kernel)⟩⟩
theorem xl10_8 : xlok (6, 29, 71, (71, 0, 139, 1, 0, [])) := ⟨139, 1, rfl, xce139, xin 464 (by decide +kernel), Or.inl (xin 512 (by decide +kernel))⟩
theorem xl10_9 : xlok (6, 35, 151, (51, 0, 6, 1, 0, [])) := ⟨6, 1, 0, rfl, ⟨("ZoneNet$Router", xT6, 6), "ZoneNet$Router", rfl, by decide, Or.inl rfl, Or.inl (xin 515 (by decide +kernel))⟩, ⟨("ZoneNet$Router", xT6, 6), .int, rfl, rfl, (fun _ => rfl), by decide +kernel, rfl⟩⟩
theorem xl10_10 : xlok (6, 21, 50, (50, 0, 6, 4, 0, [])) := ⟨6, 4, rfl, ⟨("ZoneNet$Router", xT6, 6), "ZoneNet$Router", rfl, by decide, Or.inl rfl, Or.inl (xin 522 (by decide +kernel))⟩⟩
theorem xl10_11 : xlok (6, 50, 50, (50, 0, 7, 0, 0, [])) := ⟨7, 0, rfl, ⟨("ZoneNet$Entry", xT7, 7), "ZoneNet$Entry", rfl, by decide, Or.inl rfl, Or.inr ⟨"ZoneNet", xin 482 (by decide +kernel)⟩⟩⟩
theorem xl10_12 : xlok (6, 53, 50, (50, 0, 7, 4, 0, [])) := ⟨7, 4, rfl, ⟨("ZoneNet$Entry", xT7, 7), "ZoneNet$Entry", rfl, by decide, Or.inl rfl, Or.inr ⟨"ZoneNet", xin 492 (by decide +kernel)⟩⟩⟩
theorem xl10_13 : xlok (6, 56, 50, (50, 0, 7, 1, 0, [])) := ⟨7, 1, rfl, ⟨("ZoneNet$Entry", xT7, 7), "ZoneNet$Entry", rfl, by decide, Or.inl rfl, Or.inr ⟨"ZoneNet", xin 485 (by decide +kernel)⟩⟩⟩
theorem xl10_14 : xlok (6, 25, 50, (50, 0, 6, 5, 0, [])) := ⟨6, 5, rfl, ⟨("ZoneNet$Router", xT6, 6), "ZoneNet$Router", rfl, by decide, Or.inl rfl, Or.inl (xin 523 (by decide +kernel))⟩⟩
theorem xl10_15 : xlok (6, 59, 50, (50, 0, 7, 3, 0, [])) := ⟨7, 3, rfl, ⟨("ZoneNet$Entry", xT7, 7), "ZoneNet$Entry", rfl, by decide, Or.inl rfl, Or.inr ⟨"ZoneNet", xin 490 (by decide +kernel)⟩⟩⟩
theorem xl10_16 : xlok (6, 35, 50, (50, 0, 6, 1, 0, [])) := ⟨6, 1, rfl, ⟨("ZoneNet$Router", xT6, 6), "ZoneNet$Router", rfl, by decide, Or.inl rfl, Or.inl (xin 515 (by decide +kernel))⟩⟩
theorem xl10_17 : xlok (6, 62, 70, (70, 0, 56, 3, 7, [])) := ⟨56, 3, 7, ("ZoneNet$Entry", xT7, 7), rfl, rfl, xce56, xin 784 (by decide +kernel), Or.inl (xin 785 (by decide +kernel)), Or.inl (xin 783 (by decide +kernel))⟩
theorem xl10_18 : xlok (7, 9, 50, (50, 0, 7, 0, 0, [])) := ⟨7, 0, rfl, ⟨("ZoneNet$Entry", xT7, 7), "ZoneNet$Entry", rfl, by decide, Or.inl rfl, Or.inl (xin 481 (by decide +kernel))⟩⟩
theorem xl10_19 : xlok (7, 15, 50, (50, 0, 7, 1, 0, [])) := ⟨7, 1, rfl, ⟨("ZoneNet$Entry", xT7, 7), "ZoneNet$Entry", rfl, by decide, Or.inl rfl, Or.inl (xin 484 (by decide +kernel))⟩⟩
theorem xlk10 : ∀ q ∈ xlinks10, xlok q := List.forall_mem_cons.mpr ⟨xl10_0, List.forall_mem_cons.mpr ⟨xl10_1, List.forall_mem_cons.mpr ⟨xl10_2, List.forall_mem_cons.mpr ⟨xl10_3, List.forall_mem_cons.mpr ⟨xl10_4, List.forall_mem_cons.mpr ⟨xl10_5, List.forall_mem_cons.mpr ⟨xl10_6, List.forall_mem_cons.mpr ⟨xl10_7, List.forall_mem_cons.mpr ⟨xl10_8, List.forall_mem_cons.mpr ⟨xl10_9, List.forall_mem_cons.mpr ⟨xl10_10, List.forall_mem_cons.mpr ⟨xl10_11, List.forall_mem_cons.mpr ⟨xl10_12, List.forall_mem_cons.mpr ⟨xl10_13, List.forall_mem_cons.mpr ⟨xl10_14, List.forall_mem_cons.mpr ⟨xl10_15, List.forall_mem_cons.mpr ⟨xl10_16, List.forall_mem_cons.mpr ⟨xl10_17, List.forall_mem_cons.mpr ⟨xl10_18, List.forall_mem_cons.mpr ⟨xl10_19, fun w h => absurd h List.not_mem_nil⟩⟩⟩⟩⟩⟩⟩⟩⟩⟩⟩⟩⟩⟩⟩⟩⟩⟩⟩⟩
theorem xl11_0 : xlok (7, 22, 50, (50, 0, 7, 3, 0, [])) := ⟨7, 3, rfl, ⟨("ZoneNet$Entry", xT7, 7), "ZoneNet$Entry", rfl, by decide, Or.inl rfl, Or.inl (xin 489 (by decide +kernel))⟩⟩
theorem xl11_1 : xlok (7, 25, 50, (50, 0, 7, 4, 0, [])) := ⟨7, 4, rfl, ⟨("ZoneNet$Entry", xT7, 7), "ZoneNet$Entry", rfl, by decide, Or.inl rfl, Or.inl (xin 491 (by decide +kernel))⟩⟩
theorem xl11_2 : xlok (7, 28, 50, (50, 0, 7, 5, 0, [])) := ⟨7, 5, rfl, ⟨("ZoneNet$Entry", xT7, 7), "ZoneNet$Entry", rfl, by decide, Or.inl rfl, Or.inl (xin 494 (by decide +kernel))⟩⟩
theorem xl11_3 : xlok (7, 19, 50, (50, 0, 7, 2, 0, [])) := ⟨7, 2, rfl, ⟨("ZoneNet$Entry", xT7, 7), "ZoneNet$Entry", rfl, by decide, Or.inl rfl, Or.inl (xin 487 (by decide +kernel))⟩⟩
theorem xl11_4 : xlok (7, 9, 51, (51, 0, 7, 0, 1, [])) := ⟨7, 0, 1, rfl, ⟨("ZoneNet$Entry", xT7, 7), "ZoneNet$Entry", rfl, by decide, Or.inl rfl, Or.inl (xin 481 (by decide +kernel))⟩, ⟨("ZoneNet$Entry", xT7, 7), .boolean, rfl, rfl, (fun z => nomatch z), by decide +kernel, rfl⟩⟩
theorem xl11_5 : xlok (7, 15, 51, (51, 0, 7, 1, 0, [])) := ⟨7, 1, 0, rfl, ⟨("ZoneNet$Entry", xT7, 7), "ZoneNet$Entry", rfl, by decide, Or.inl rfl, Or.inl (xin 484 (by decide +kernel))⟩, ⟨("ZoneNet$Entry", xT7, 7), .int, rfl, rfl, (fun z => nomatch z), by decide +kernel, rfl⟩⟩
theorem xl11_6 : xlok (7, 19, 51, (51, 0, 7, 2, 0, [])) := ⟨7, 2, 0, rfl, ⟨("ZoneNet$Entry", xT7, 7), "ZoneNet$Entry", rfl, by decide, Or.inl rfl, Or.inl (xin 487 (by decide +kernel))⟩, ⟨("ZoneNet$Entry", xT7, 7), .int, rfl, rfl, (fun z => nomatch z), by decide +kernel, rfl⟩⟩
theorem xl11_7 : xlok (7, 22, 51, (51, 0, 7, 3, 0, [])) := ⟨7, 3, 0, rfl, ⟨("ZoneNet$Entry", xT7, 7), "ZoneNet$Entry", rfl, by decide, Or.inl rfl, Or.inl (xin 489 (by decide +kernel))⟩, ⟨("ZoneNet$Entry", xT7, 7), .int, rfl, rfl, (fun z => nomatch z), by decide +kernel, rfl⟩⟩
theorem xl11_8 : xlok (7, 25, 51, (51, 0, 7, 4, 0, [])) := ⟨7, 4, 0, rfl, ⟨("ZoneNet$Entry", xT7, 7), "ZoneNet$Entry", rfl, by decide, Or.inl rfl, Or.inl (xin 491 (by decide +kernel))⟩, ⟨("ZoneNet$Entry", xT7, 7), .int, rfl, rfl, (fun z => nomatch z), by decide +kernel, rfl⟩⟩
theorem xl11_9 : xlok (7, 28, 51, (51, 0, 7, 5, 1, [])) := ⟨7, 5, 1, rfl, ⟨("ZoneNet$Entry", xT7, 7), "ZoneNet$Entry", rfl, by decide, Or.inl rfl, Or.inl (xin 494 (by decide +kernel))⟩, ⟨("ZoneNet$Entry", xT7, 7), .boolean, rfl, rfl, (fun z => nomatch z), by decide +kernel, rfl⟩⟩
theorem xl11_10 : xlok (7, 31, 70, (70, 0, 53, 0, 7, [])) := ⟨53, 0, 7, ("ZoneNet$Entry", xT7, 7), rfl, rfl, xce53, xin 546 (by decide +kernel), Or.inl (xin 547 (by decide +kernel)), Or.inl (xin 774 (by decide +kernel))⟩
theorem xl11_11 : xlok (7, 3, 72, (73, 0, 0, 0, 0, [])) := Or.inl ⟨rfl, xin 480 (by decide +kernel), xin 31 (by decide +kernel), xin 32 (by decide +kernel)⟩
theorem xl11_12 : xlok (5, 3, 72, (73, 0, 0, 0, 0, [])) := Or.inl ⟨rfl, xin 444 (by decide +kernel), xin 31 (by decide +kernel), xin 32 (by decide +kernel)⟩
theorem xl11_13 : xlok (5, 9, 151, (51, 0, 5, 1, 4, [])) := ⟨5, 1, 4, rfl, ⟨("ZoneNet$Network", xT5, 2), "ZoneNet$Network", rfl, by decide, Or.inl rfl, Or.inl (xin 447 (by decide +kernel))⟩, ⟨("ZoneNet$Network", xT5, 2), .array .boolean, rfl, rfl, (fun _ => rfl), by decide +kernel, rfl⟩⟩
theorem xl11_14 : xlok (5, 15, 151, (51, 0, 5, 0, 4, [])) := ⟨5, 0, 4, rfl, ⟨("ZoneNet$Network", xT5, 2), "ZoneNet$Network", rfl, by decide, Or.inl rfl, Or.inl (xin 445 (by decide +kernel))⟩, ⟨("ZoneNet$Network", xT5, 2), .object "java/lang/String", rfl, rfl, (fun _ => rfl), by decide +kernel, rfl⟩⟩
theorem xl11_15 : xlok (3, 3, 72, (73, 0, 0, 0, 0, [])) := Or.inl ⟨rfl, xin 95 (by decide +kernel), xin 31 (by decide +kernel), xin 32 (by decide +kernel)⟩
theorem xl11_16 : xlok (3, 9, 151, (51, 0, 3, 0, 4, [])) := ⟨3, 0, 4, rfl, ⟨("ZoneNet$Line", xT3, 3), "ZoneNet$Line", rfl, by decide, Or.inl rfl, Or.inl (xin 96 (by decide +kernel))⟩, ⟨("ZoneNet$Line", xT3, 3), .object "ZoneNet$Mesh", rfl, rfl, (fun _ => rfl), by decide +kernel, rfl⟩⟩
theorem xl11_17 : xlok (3, 15, 50, (50, 0, 3, 1, 0, [])) := ⟨3, 1, rfl, ⟨("ZoneNet$Line", xT3, 3), "ZoneNet$Line", rfl, by decide, Or.inl rfl, Or.inl (xin 97 (by decide +kernel))⟩⟩
theorem xl11_18 : xlok (3, 15, 51, (51, 0, 3, 1, 0, [])) := ⟨3, 1, 0, rfl, ⟨("ZoneNet$Line", xT3, 3), "ZoneNet$Line", rfl, by decide, Or.inl rfl, Or.inl (xin 97 (by decide +kernel))⟩, ⟨("ZoneNet$Line", xT3, 3), .int, rfl, rfl, (fun z => nomatch z), by decide +kernel, rfl⟩⟩
theorem xl11_19 : xlok (3, 19, 50, (50, 0, 3, 2, 0, [])) := ⟨3, 2, rfl, ⟨("ZoneNet$Line", xT3, 3), "ZoneNet$Line", rfl, by decide, Or.inl rfl, Or.inl (xin 99 (by decide +kernel))⟩⟩
theorem xlk11 : ∀ q ∈ xlinks11, xlok q := List.forall_mem_cons.mpr ⟨xl11_0, List.forall_mem_cons.mpr ⟨xl11_1, List.forall_mem_cons.mpr ⟨xl11_2, List.forall_mem_cons.mpr ⟨xl11_3, List.forall_mem_cons.mpr ⟨xl11_4, List.forall_mem_cons.mpr ⟨xl11_5, List.forall_mem_cons.mpr ⟨xl11_6, List.forall_mem_cons.mpr ⟨xl11_7, List.forall_mem_cons.mpr ⟨xl11_8, List.forall_mem_cons.mpr ⟨xl11_9, List.forall_mem_cons.mpr ⟨xl11_10, List.forall_mem_cons.mpr ⟨xl11_11, List.forall_mem_cons.mpr ⟨xl11_12, List.forall_mem_cons.mpr ⟨xl11_13, List.forall_mem_cons.mpr ⟨xl11_14, List.forall_mem_cons.mpr ⟨xl11_15, List.forall_mem_cons.mpr ⟨xl11_16, List.forall_mem_cons.mpr ⟨xl11_17, List.forall_mem_cons.mpr ⟨xl11_18, List.forall_mem_cons.mpr ⟨xl11_19, fun w h => absurd h List.not_mem_nil⟩⟩⟩⟩⟩⟩⟩⟩⟩⟩⟩⟩⟩⟩⟩⟩⟩⟩⟩⟩
theorem xl12_0 : xlok (3, 19, 51, (51, 0, 3, 2, 0, [])) := ⟨3, 2, 0, rfl, ⟨("ZoneNet$Line", xT3, 3), "ZoneNet$Line", rfl, by decide, Or.inl rfl, Or.inl (xin 99 (by decide +kernel))⟩, ⟨("ZoneNet$Line", xT3, 3), .int, rfl, rfl, (fun z => nomatch z), by decide +kernel, rfl⟩⟩
theorem xl12_1 : xlok (3, 9, 50, (50, 0, 3, 0, 0, [])) := ⟨3, 0, rfl, ⟨("ZoneNet$Line", xT3, 3), "ZoneNet$Line", rfl, by decide, Or.inl rfl, Or.inl (xin 96 (by decide +kernel))⟩⟩
theorem xl12_2 : xlok (3, 22, 70, (70, 0, 43, 2, 2, [])) := ⟨43, 2, 2, ("ZoneNet$Mesh", xT2, 4), rfl, rfl, xce43, xin 659 (by decide +kernel), Or.inl (xin 660 (by decide +kernel)), Or.inl (xin 820 (by decide +kernel))⟩
theorem xl12_3 : xlok (9, 3, 72, (73, 0, 0, 0, 0, [])) := Or.inl ⟨rfl, xin 679 (by decide +kernel), xin 31 (by decide +kernel), xin 32 (by decide +kernel)⟩
theorem xl12_4 : xlok (9, 9, 151, (51, 0, 9, 4, 4, [])) := ⟨9, 4, 4, rfl, ⟨("ZoneNet$Service", xT9, 7), "ZoneNet$Service", rfl, by decide, Or.inl rfl, Or.inl (xin 712 (by decide +kernel))⟩, ⟨("ZoneNet$Service", xT9, 7), .array .int, rfl, rfl, (fun _ => rfl), by decide +kernel, rfl⟩⟩
theorem xl12_5 : xlok (9, 15, 55, (55, 0, 9, 0, 0, [])) := ⟨9, ("ZoneNet$Listed", xT10, 5), rfl, by decide, rfl, xin 680 (by decide +kernel), xin 681 (by decide +kernel)⟩
theorem xl12_6 : xlok (9, 17, 151, (51, 0, 9, 6, 4, [])) := ⟨9, 6, 4, rfl, ⟨("ZoneNet$Service", xT9, 7), "ZoneNet$Service", rfl, by decide, Or.inl rfl, Or.inl (xin 714 (by decide +kernel))⟩, ⟨("ZoneNet$Service", xT9, 7), .array (.object "ZoneNet$Listed"), rfl, rfl, (fun _ => rfl), by decide +kernel, rfl⟩⟩
theorem xl12_7 : xlok (9, 21, 151, (51, 0, 9, 0, 0, [])) := ⟨9, 0, 0, rfl, ⟨("ZoneNet$Service", xT9, 7), "ZoneNet$Service", rfl, by decide, Or.inl rfl, Or.inl (xin 706 (by decide +kernel))⟩, ⟨("ZoneNet$Service", xT9, 7), .int, rfl, rfl, (fun _ => rfl), by decide +kernel, rfl⟩⟩
theorem xl12_8 : xlok (9, 25, 151, (51, 0, 9, 1, 4, [])) := ⟨9, 1, 4, rfl, ⟨("ZoneNet$Service", xT9, 7), "ZoneNet$Service", rfl, by decide, Or.inl rfl, Or.inl (xin 708 (by decide +kernel))⟩, ⟨("ZoneNet$Service", xT9, 7), .object "java/lang/String", rfl, rfl, (fun _ => rfl), by decide +kernel, rfl⟩⟩
theorem xl12_9 : xlok (9, 29, 151, (51, 0, 9, 2, 4, [])) := ⟨9, 2, 4, rfl, ⟨("ZoneNet$Service", xT9, 7), "ZoneNet$Service", rfl, by decide, Or.inl rfl, Or.inl (xin 709 (by decide +kernel))⟩, ⟨("ZoneNet$Service", xT9, 7), .object "java/lang/String", rfl, rfl, (fun _ => rfl), by decide +kernel, rfl⟩⟩
theorem xl12_10 : xlok (9, 17, 50, (50, 0, 9, 6, 0, [])) := ⟨9, 6, rfl, ⟨("ZoneNet$Service", xT9, 7), "ZoneNet$Service", rfl, by decide, Or.inl rfl, Or.inl (xin 714 (by decide +kernel))⟩⟩
theorem xl12_11 : xlok (9, 15, 53, (53, 0, 10, 5, 0, [])) := ⟨10, 5, ("ZoneNet$Listed", xT10, 5), rfl, rfl, xin 680 (by decide +kernel), xin 682 (by decide +kernel), xin 23 (by decide +kernel)⟩
theorem xl12_12 : xlok (9, 32, 72, (72, 0, 67, 0, 0, [])) := Or.inr ⟨67, 0, rfl, xce67, rfl, rfl, xin 684 (by decide +kernel), Or.inr ⟨"ZoneNet", xin 683 (by decide +kernel)⟩⟩
theorem xl12_13 : xlok (9, 9, 50, (50, 0, 9, 4, 0, [])) := ⟨9, 4, rfl, ⟨("ZoneNet$Service", xT9, 7), "ZoneNet$Service", rfl, by decide, Or.inl rfl, Or.inl (xin 712 (by decide +kernel))⟩⟩
theorem xl12_14 : xlok (9, 75, 50, (50, 0, 9, 5, 0, [])) := ⟨9, 5, rfl, ⟨("ZoneNet$Service", xT9, 7), "ZoneNet$Service", rfl, by decide, Or.inl rfl, Or.inl (xin 713 (by decide +kernel))⟩⟩
theorem xl12_15 : xlok (9, 81, 70, (70, 0, 65, 0, 9, [])) := ⟨65, 0, 9, ("ZoneNet$Service", xT9, 7), rfl, rfl, xce65, xin 941 (by decide +kernel), Or.inl (xsel ⟨"ZoneNet$Service", "countListed", "()I"⟩ 7 (by decide +kernel)), Or.inl (xin 939 (by decide +kernel))⟩
theorem xl12_16 : xlok (9, 33, 50, (50, 0, 9, 3, 0, [])) := ⟨9, 3, rfl, ⟨("ZoneNet$Service", xT9, 7), "ZoneNet$Service", rfl, by decide, Or.inl rfl, Or.inl (xin 710 (by decide +kernel))⟩⟩
theorem xl12_17 : xlok (9, 37, 50, (50, 0, 8, 0, 0, [])) := ⟨8, 0, rfl, ⟨("ZoneNet$Pattern", xT8, 3), "ZoneNet$Pattern", rfl, by decide, Or.inl rfl, Or.inr ⟨"ZoneNet", xin 615 (by decide +kernel)⟩⟩⟩
theorem xl12_18 : xlok (9, 25, 50, (50, 0, 9, 1, 0, [])) := ⟨9, 1, rfl, ⟨("ZoneNet$Service", xT9, 7), "ZoneNet$Service", rfl, by decide, Or.inl rfl, Or.inl (xin 708 (by decide +kernel))⟩⟩
theorem xl12_19 : xlok (9, 40, 71, (71, 0, 77, 2, 0, [])) := ⟨77, 2, rfl, xce77, xin 668 (by decide +kernel), Or.inl (xin 667 (by decide +kernel))⟩
theorem xlk12 : ∀ q ∈ xlinks12, xlok q := List.forall_mem_cons.mpr ⟨xl12_0, List.forall_mem_cons.mpr ⟨xl12_1, List.forall_mem_cons.mpr ⟨xl12_2, List.forall_mem_cons.mpr ⟨xl12_3, List.forall_mem_cons.mpr ⟨xl12_4, List.forall_mem_cons.mpr ⟨xl12_5, List.forall_mem_cons.mpr ⟨xl12_6, List.forall_mem_cons.mpr ⟨xl12_7, List.forall_mem_cons.mpr ⟨xl12_8, List.forall_mem_cons.mpr ⟨xl12_9, List.forall_mem_cons.mpr ⟨xl12_10, List.forall_mem_cons.mpr ⟨xl12_11, List.forall_mem_cons.mpr ⟨xl12_12, List.forall_mem_cons.mpr ⟨xl12_13, List.forall_mem_cons.mpr ⟨xl12_14, List.forall_mem_cons.mpr ⟨xl12_15, List.forall_mem_cons.mpr ⟨xl12_16, List.forall_mem_cons.mpr ⟨xl12_17, List.forall_mem_cons.mpr ⟨xl12_18, List.forall_mem_cons.mpr ⟨xl12_19, fun w h => absurd h List.not_mem_nil⟩⟩⟩⟩⟩⟩⟩⟩⟩⟩⟩⟩⟩⟩⟩⟩⟩⟩⟩⟩
theorem xl13_0 : xlok (9, 46, 50, (50, 0, 8, 1, 0, [])) := ⟨8, 1, rfl, ⟨("ZoneNet$Pattern", xT8, 3), "ZoneNet$Pattern", rfl, by decide, Or.inl rfl, Or.inr ⟨"ZoneNet", xin 618 (by decide +kernel)⟩⟩⟩
theorem xl13_1 : xlok (9, 29, 50, (50, 0, 9, 2, 0, [])) := ⟨9, 2, rfl, ⟨("ZoneNet$Service", xT9, 7), "ZoneNet$Service", rfl, by decide, Or.inl rfl, Or.inl (xin 709 (by decide +kernel))⟩⟩
theorem xl13_2 : xlok (9, 78, 50, (50, 0, 10, 4, 0, [])) := ⟨10, 4, rfl, ⟨("ZoneNet$Listed", xT10, 5), "ZoneNet$Listed", rfl, by decide, Or.inl rfl, Or.inr ⟨"ZoneNet", xin 693 (by decide +kernel)⟩⟩⟩
theorem xl13_3 : xlok (9, 47, 51, (51, 0, 10, 0, 1, [])) := ⟨10, 0, 1, rfl, ⟨("ZoneNet$Listed", xT10, 5), "ZoneNet$Listed", rfl, by decide, Or.inl rfl, Or.inr ⟨"ZoneNet", xin 687 (by decide +kernel)⟩⟩, ⟨("ZoneNet$Listed", xT10, 5), .boolean, rfl, rfl, (fun z => nomatch z), by decide +kernel, rfl⟩⟩
theorem xl13_4 : xlok (9, 47, 50, (50, 0, 10, 0, 0, [])) := ⟨10, 0, rfl, ⟨("ZoneNet$Listed", xT10, 5), "ZoneNet$Listed", rfl, by decide, Or.inl rfl, Or.inr ⟨"ZoneNet", xin 687 (by decide +kernel)⟩⟩⟩
theorem xl13_5 : xlok (9, 50, 50, (50, 0, 10, 1, 0, [])) := ⟨10, 1, rfl, ⟨("ZoneNet$Listed", xT10, 5), "ZoneNet$Listed", rfl, by decide, Or.inl rfl, Or.inr ⟨"ZoneNet", xin 689 (by decide +kernel)⟩⟩⟩
theorem xl13_6 : xlok (9, 53, 50, (50, 0, 11, 0, 0, [])) := ⟨11, 0, rfl, ⟨("ZoneNet$Session", xT11, 13), "ZoneNet$Session", rfl, by decide, Or.inl rfl, Or.inr ⟨"ZoneNet", xin 857 (by decide +kernel)⟩⟩⟩
theorem xl13_7 : xlok (9, 58, 50, (50, 0, 10, 2, 0, [])) := ⟨10, 2, rfl, ⟨("ZoneNet$Listed", xT10, 5), "ZoneNet$Listed", rfl, by decide, Or.inl rfl, Or.inr ⟨"ZoneNet", xin 690 (by decide +kernel)⟩⟩⟩
theorem xl13_8 : xlok (9, 61, 50, (50, 0, 11, 5, 0, [])) := ⟨11, 5, rfl, ⟨("ZoneNet$Session", xT11, 13), "ZoneNet$Session", rfl, by decide, Or.inl rfl, Or.inr ⟨"ZoneNet", xin 866 (by decide +kernel)⟩⟩⟩
theorem xl13_9 : xlok (9, 50, 51, (51, 0, 10, 1, 0, [])) := ⟨10, 1, 0, rfl, ⟨("ZoneNet$Listed", xT10, 5), "ZoneNet$Listed", rfl, by decide, Or.inl rfl, Or.inr ⟨"ZoneNet", xin 689 (by decide +kernel)⟩⟩, ⟨("ZoneNet$Listed", xT10, 5), .int, rfl, rfl, (fun z => nomatch z), by decide +kernel, rfl⟩⟩
theorem xl13_10 : xlok (9, 58, 51, (51, 0, 10, 2, 0, [])) := ⟨10, 2, 0, rfl, ⟨("ZoneNet$Listed", xT10, 5), "ZoneNet$Listed", rfl, by decide, Or.inl rfl, Or.inr ⟨"ZoneNet", xin 690 (by decide +kernel)⟩⟩, ⟨("ZoneNet$Listed", xT10, 5), .int, rfl, rfl, (fun z => nomatch z), by decide +kernel, rfl⟩⟩
theorem xl13_11 : xlok (9, 62, 50, (50, 0, 11, 7, 0, [])) := ⟨11, 7, rfl, ⟨("ZoneNet$Session", xT11, 13), "ZoneNet$Session", rfl, by decide, Or.inl rfl, Or.inr ⟨"ZoneNet", xin 871 (by decide +kernel)⟩⟩⟩
theorem xl13_12 : xlok (9, 65, 50, (50, 0, 11, 8, 0, [])) := ⟨11, 8, rfl, ⟨("ZoneNet$Session", xT11, 13), "ZoneNet$Session", rfl, by decide, Or.inl rfl, Or.inr ⟨"ZoneNet", xin 873 (by decide +kernel)⟩⟩⟩
theorem xl13_13 : xlok (9, 68, 70, (70, 0, 66, 2, 9, [])) := ⟨66, 2, 9, ("ZoneNet$Service", xT9, 7), rfl, rfl, xce66, xin 827 (by decide +kernel), Or.inl (xsel ⟨"ZoneNet$Service", "carryOut", "(II)I"⟩ 7 (by decide +kernel)), Or.inl (xin 825 (by decide +kernel))⟩
theorem xl13_14 : xlok (9, 72, 51, (51, 0, 10, 3, 0, [])) := ⟨10, 3, 0, rfl, ⟨("ZoneNet$Listed", xT10, 5), "ZoneNet$Listed", rfl, by decide, Or.inl rfl, Or.inr ⟨"ZoneNet", xin 691 (by decide +kernel)⟩⟩, ⟨("ZoneNet$Listed", xT10, 5), .int, rfl, rfl, (fun z => nomatch z), by decide +kernel, rfl⟩⟩
theorem xl13_15 : xlok (9, 75, 51, (51, 0, 9, 5, 0, [])) := ⟨9, 5, 0, rfl, ⟨("ZoneNet$Service", xT9, 7), "ZoneNet$Service", rfl, by decide, Or.inl rfl, Or.inl (xin 713 (by decide +kernel))⟩, ⟨("ZoneNet$Service", xT9, 7), .int, rfl, rfl, (fun z => nomatch z), by decide +kernel, rfl⟩⟩
theorem xl13_16 : xlok (10, 1, 72, (73, 0, 0, 0, 0, [])) := Or.inl ⟨rfl, xin 686 (by decide +kernel), xin 31 (by decide +kernel), xin 32 (by decide +kernel)⟩
theorem xl13_17 : xlok (11, 3, 72, (73, 0, 0, 0, 0, [])) := Or.inl ⟨rfl, xin 855 (by decide +kernel), xin 31 (by decide +kernel), xin 32 (by decide +kernel)⟩
theorem xl13_18 : xlok (11, 9, 51, (51, 0, 11, 5, 0, [])) := ⟨11, 5, 0, rfl, ⟨("ZoneNet$Session", xT11, 13), "ZoneNet$Session", rfl, by decide, Or.inl rfl, Or.inl (xin 865 (by decide +kernel))⟩, ⟨("ZoneNet$Session", xT11, 13), .int, rfl, rfl, (fun z => nomatch z), by decide +kernel, rfl⟩⟩
theorem xl13_19 : xlok (11, 15, 151, (51, 0, 11, 0, 0, [])) := ⟨11, 0, 0, rfl, ⟨("ZoneNet$Session", xT11, 13), "ZoneNet$Session", rfl, by decide, Or.inl rfl, Or.inl (xin 856 (by decide +kernel))⟩, ⟨("ZoneNet$Session", xT11, 13), .int, rfl, rfl, (fun _ => rfl), by decide +kernel, rfl⟩⟩
theorem xlk13 : ∀ q ∈ xlinks13, xlok q := List.forall_mem_cons.mpr ⟨xl13_0, List.forall_mem_cons.mpr ⟨xl13_1, List.forall_mem_cons.mpr ⟨xl13_2, List.forall_mem_cons.mpr ⟨xl13_3, List.forall_mem_cons.mpr ⟨xl13_4, List.forall_mem_cons.mpr ⟨xl13_5, List.forall_mem_cons.mpr ⟨xl13_6, List.forall_mem_cons.mpr ⟨xl13_7, List.forall_mem_cons.mpr ⟨xl13_8, List.forall_mem_cons.mpr ⟨xl13_9, List.forall_mem_cons.mpr ⟨xl13_10, List.forall_mem_cons.mpr ⟨xl13_11, List.forall_mem_cons.mpr ⟨xl13_12, List.forall_mem_cons.mpr ⟨xl13_13, List.forall_mem_cons.mpr ⟨xl13_14, List.forall_mem_cons.mpr ⟨xl13_15, List.forall_mem_cons.mpr ⟨xl13_16, List.forall_mem_cons.mpr ⟨xl13_17, List.forall_mem_cons.mpr ⟨xl13_18, List.forall_mem_cons.mpr ⟨xl13_19, fun w h => absurd h List.not_mem_nil⟩⟩⟩⟩⟩⟩⟩⟩⟩⟩⟩⟩⟩⟩⟩⟩⟩⟩⟩⟩
theorem xl14_0 : xlok (11, 18, 151, (51, 0, 11, 1, 0, [])) := ⟨11, 1, 0, rfl, ⟨("ZoneNet$Session", xT11, 13), "ZoneNet$Session", rfl, by decide, Or.inl rfl, Or.inl (xin 858 (by decide +kernel))⟩, ⟨("ZoneNet$Session", xT11, 13), .int, rfl, rfl, (fun _ => rfl), by decide +kernel, rfl⟩⟩
theorem xl14_1 : xlok (11, 21, 151, (51, 0, 11, 2, 4, [])) := ⟨11, 2, 4, rfl, ⟨("ZoneNet$Session", xT11, 13), "ZoneNet$Session", rfl, by decide, Or.inl rfl, Or.inl (xin 860 (by decide +kernel))⟩, ⟨("ZoneNet$Session", xT11, 13), .object "ZoneNet$Service", rfl, rfl, (fun _ => rfl), by decide +kernel, rfl⟩⟩
theorem xl14_2 : xlok (11, 9, 50, (50, 0, 11, 5, 0, [])) := ⟨11, 5, rfl, ⟨("ZoneNet$Session", xT11, 13), "ZoneNet$Session", rfl, by decide, Or.inl rfl, Or.inl (xin 865 (by decide +kernel))⟩⟩
theorem xl14_3 : xlok (11, 25, 51, (51, 0, 11, 6, 0, [])) := ⟨11, 6, 0, rfl, ⟨("ZoneNet$Session", xT11, 13), "ZoneNet$Session", rfl, by decide, Or.inl rfl, Or.inl (xin 868 (by decide +kernel))⟩, ⟨("ZoneNet$Session", xT11, 13), .int, rfl, rfl, (fun z => nomatch z), by decide +kernel, rfl⟩⟩
theorem xl14_4 : xlok (11, 28, 51, (51, 0, 11, 7, 0, [])) := ⟨11, 7, 0, rfl, ⟨("ZoneNet$Session", xT11, 13), "ZoneNet$Session", rfl, by decide, Or.inl rfl, Or.inl (xin 870 (by decide +kernel))⟩, ⟨("ZoneNet$Session", xT11, 13), .int, rfl, rfl, (fun z => nomatch z), by decide +kernel, rfl⟩⟩
theorem xl14_5 : xlok (11, 31, 51, (51, 0, 11, 8, 0, [])) := ⟨11, 8, 0, rfl, ⟨("ZoneNet$Session", xT11, 13), "ZoneNet$Session", rfl, by decide, Or.inl rfl, Or.inl (xin 872 (by decide +kernel))⟩, ⟨("ZoneNet$Session", xT11, 13), .int, rfl, rfl, (fun z => nomatch z), by decide +kernel, rfl⟩⟩
theorem xl14_6 : xlok (11, 34, 51, (51, 0, 11, 9, 0, [])) := ⟨11, 9, 0, rfl, ⟨("ZoneNet$Session", xT11, 13), "ZoneNet$Session", rfl, by decide, Or.inl rfl, Or.inl (xin 874 (by decide +kernel))⟩, ⟨("ZoneNet$Session", xT11, 13), .int, rfl, rfl, (fun z => nomatch z), by decide +kernel, rfl⟩⟩
theorem xl14_7 : xlok (11, 37, 51, (51, 0, 11, 10, 0, [])) := ⟨11, 10, 0, rfl, ⟨("ZoneNet$Session", xT11, 13), "ZoneNet$Session", rfl, by decide, Or.inl rfl, Or.inl (xin 876 (by decide +kernel))⟩, ⟨("ZoneNet$Session", xT11, 13), .int, rfl, rfl, (fun z => nomatch z), by decide +kernel, rfl⟩⟩
theorem xl14_8 : xlok (11, 40, 50, (50, 0, 11, 4, 0, [])) := ⟨11, 4, rfl, ⟨("ZoneNet$Session", xT11, 13), "ZoneNet$Session", rfl, by decide, Or.inl rfl, Or.inl (xin 864 (by decide +kernel))⟩⟩
theorem xl14_9 : xlok (11, 40, 51, (51, 0, 11, 4, 0, [])) := ⟨11, 4, 0, rfl, ⟨("ZoneNet$Session", xT11, 13), "ZoneNet$Session", rfl, by decide, Or.inl rfl, Or.inl (xin 864 (by decide +kernel))⟩, ⟨("ZoneNet$Session", xT11, 13), .int, rfl, rfl, (fun z => nomatch z), by decide +kernel, rfl⟩⟩
theorem xl14_10 : xlok (11, 43, 51, (51, 0, 11, 3, 1, [])) := ⟨11, 3, 1, rfl, ⟨("ZoneNet$Session", xT11, 13), "ZoneNet$Session", rfl, by decide, Or.inl rfl, Or.inl (xin 862 (by decide +kernel))⟩, ⟨("ZoneNet$Session", xT11, 13), .boolean, rfl, rfl, (fun z => nomatch z), by decide +kernel, rfl⟩⟩
theorem xl14_11 : xlok (11, 25, 50, (50, 0, 11, 6, 0, [])) := ⟨11, 6, rfl, ⟨("ZoneNet$Session", xT11, 13), "ZoneNet$Session", rfl, by decide, Or.inl rfl, Or.inl (xin 868 (by decide +kernel))⟩⟩
theorem xl14_12 : xlok (8, 19, 70, (70, 0, 143, 1, 4, [])) := ⟨143, 1, 4, ("java/lang/String", xT4, 2), rfl, rfl, xce143, xin 382 (by decide +kernel), Or.inl (xin 383 (by decide +kernel)), Or.inl (xin 577 (by decide +kernel))⟩
theorem xl14_13 : xlok (8, 25, 70, (70, 0, 144, 2, 4, [])) := ⟨144, 2, 4, ("java/lang/String", xT4, 2), rfl, rfl, xce144, xin 579 (by decide +kernel), Or.inl (xin 580 (by decide +kernel)), Or.inl (xin 578 (by decide +kernel))⟩
theorem xl14_14 : xlok (8, 29, 70, (70, 0, 145, 1, 4, [])) := ⟨145, 1, 4, ("java/lang/String", xT4, 2), rfl, rfl, xce145, xin 602 (by decide +kernel), Or.inl (xin 603 (by decide +kernel)), Or.inl (xin 601 (by decide +kernel))⟩
theorem xl14_15 : xlok (8, 38, 71, (71, 0, 74, 1, 0, [])) := ⟨74, 1, rfl, xce74, xin 348 (by decide +kernel), Or.inl (xin 606 (by decide +kernel))⟩
theorem xl14_16 : xlok (8, 8, 53, (53, 0, 8, 3, 0, [])) := ⟨8, 3, ("ZoneNet$Pattern", xT8, 3), rfl, rfl, xin 607 (by decide +kernel), xin 608 (by decide +kernel), xin 21 (by decide +kernel)⟩
theorem xl14_17 : xlok (8, 32, 60, (60, 0, 2, 0, 0, [])) := Or.inl ⟨2, "*", rfl, by decide +kernel⟩
theorem xl14_18 : xlok (8, 47, 72, (72, 0, 73, 3, 0, [])) := Or.inr ⟨73, 3, rfl, xce73, rfl, rfl, xin 611 (by decide +kernel), Or.inl (xin 610 (by decide +kernel))⟩
theorem xl14_19 : xlok (8, 34, 70, (70, 0, 146, 1, 4, [])) := ⟨146, 1, 4, ("java/lang/String", xT4, 2), rfl, rfl, xce146, xin 643 (by decide +kernel), Or.inl (xin 644 (by decide +kernel)), Or.inl (xin 745 (by decide +kernel))⟩
theorem xlk14 : ∀ q ∈ xlinks14, xlok q := List.forall_mem_cons.mpr ⟨xl14_0, List.forall_mem_cons.mpr ⟨xl14_1, List.forall_mem_cons.mpr ⟨xl14_2, List.forall_mem_cons.mpr ⟨xl14_3, List.forall_mem_cons.mpr ⟨xl14_4, List.forall_mem_cons.mpr ⟨xl14_5, List.forall_mem_cons.mpr ⟨xl14_6, List.forall_mem_cons.mpr ⟨xl14_7, List.forall_mem_cons.mpr ⟨xl14_8, List.forall_mem_cons.mpr ⟨xl14_9, List.forall_mem_cons.mpr ⟨xl14_10, List.forall_mem_cons.mpr ⟨xl14_11, List.forall_mem_cons.mpr ⟨xl14_12, List.forall_mem_cons.mpr ⟨xl14_13, List.forall_mem_cons.mpr ⟨xl14_14, List.forall_mem_cons.mpr ⟨xl14_15, List.forall_mem_cons.mpr ⟨xl14_16, List.forall_mem_cons.mpr ⟨xl14_17, List.forall_mem_cons.mpr ⟨xl14_18, List.forall_mem_cons.mpr ⟨xl14_19, fun w h => absurd h List.not_mem_nil⟩⟩⟩⟩⟩⟩⟩⟩⟩⟩⟩⟩⟩⟩⟩⟩⟩⟩⟩⟩
theorem xl15_0 : xlok (8, 44, 71, (71, 0, 76, 1, 0, [])) := ⟨76, 1, rfl, xce76, xin 747 (by decide +kernel), Or.inl (xin 746 (by decide +kernel))⟩
theorem xl15_1 : xlok (8, 1, 72, (73, 0, 0, 0, 0, [])) := Or.inl ⟨rfl, xin 613 (by decide +kernel), xin 31 (by decide +kernel), xin 32 (by decide +kernel)⟩
theorem xl15_2 : xlok (8, 7, 151, (51, 0, 8, 0, 4, [])) := ⟨8, 0, 4, rfl, ⟨("ZoneNet$Pattern", xT8, 3), "ZoneNet$Pattern", rfl, by decide, Or.inl rfl, Or.inl (xin 614 (by decide +kernel))⟩, ⟨("ZoneNet$Pattern", xT8, 3), .object "java/lang/String", rfl, rfl, (fun _ => rfl), by decide +kernel, rfl⟩⟩
theorem xl15_3 : xlok (8, 13, 151, (51, 0, 8, 1, 4, [])) := ⟨8, 1, 4, rfl, ⟨("ZoneNet$Pattern", xT8, 3), "ZoneNet$Pattern", rfl, by decide, Or.inl rfl, Or.inl (xin 617 (by decide +kernel))⟩, ⟨("ZoneNet$Pattern", xT8, 3), .object "java/lang/String", rfl, rfl, (fun _ => rfl), by decide +kernel, rfl⟩⟩
theorem xl15_4 : xlok (8, 16, 151, (51, 0, 8, 2, 4, [])) := ⟨8, 2, 4, rfl, ⟨("ZoneNet$Pattern", xT8, 3), "ZoneNet$Pattern", rfl, by decide, Or.inl rfl, Or.inl (xin 620 (by decide +kernel))⟩, ⟨("ZoneNet$Pattern", xT8, 3), .object "java/lang/String", rfl, rfl, (fun _ => rfl), by decide +kernel, rfl⟩⟩
theorem xl15_5 : xlok (14, 9, 70, (70, 0, 142, 0, 4, [])) := ⟨142, 0, 4, ("java/lang/String", xT4, 2), rfl, rfl, xce142, xin 351 (by decide +kernel), Or.inl (xin 352 (by decide +kernel)), Or.inl (xin 350 (by decide +kernel))⟩
theorem xl15_6 : xlok (14, 15, 71, (71, 0, 75, 1, 0, [])) := ⟨75, 1, rfl, xce75, xin 355 (by decide +kernel), Or.inl (xin 354 (by decide +kernel))⟩
theorem xl15_7 : xlok (14, 35, 70, (70, 0, 148, 0, 4, [])) := ⟨148, 0, 4, ("java/lang/String", xT4, 2), rfl, rfl, xce148, xin 358 (by decide +kernel), Or.inl (xin 359 (by decide +kernel)), Or.inl (xin 357 (by decide +kernel))⟩
theorem xl15_8 : xlok (14, 43, 60, (60, 0, 0, 0, 0, [])) := Or.inl ⟨0, ":@=~*", rfl, by decide +kernel⟩
theorem xl15_9 : xlok (14, 45, 70, (70, 0, 149, 1, 4, [])) := ⟨149, 1, 4, ("java/lang/String", xT4, 2), rfl, rfl, xce149, xin 367 (by decide +kernel), Or.inl (xin 368 (by decide +kernel)), Or.inl (xin 366 (by decide +kernel))⟩
theorem xl15_10 : xlok (14, 31, 70, (70, 0, 143, 1, 4, [])) := ⟨143, 1, 4, ("java/lang/String", xT4, 2), rfl, rfl, xce143, xin 382 (by decide +kernel), Or.inl (xin 383 (by decide +kernel)), Or.inl (xin 381 (by decide +kernel))⟩
theorem xl15_11 : xlok (14, 21, 71, (71, 0, 74, 1, 0, [])) := ⟨74, 1, rfl, xce74, xin 348 (by decide +kernel), Or.inl (xin 749 (by decide +kernel))⟩
theorem xl15_12 : xlok (14, 25, 60, (60, 0, 3, 0, 0, [])) := Or.inl ⟨3, "=", rfl, by decide +kernel⟩
theorem xl15_13 : xlok (14, 27, 70, (70, 0, 146, 1, 4, [])) := ⟨146, 1, 4, ("java/lang/String", xT4, 2), rfl, rfl, xce146, xin 643 (by decide +kernel), Or.inl (xin 644 (by decide +kernel)), Or.inl (xin 671 (by decide +kernel))⟩
theorem xl15_14 : xlok (14, 39, 71, (71, 0, 78, 5, 0, [])) := ⟨78, 5, rfl, xce78, xin 673 (by decide +kernel), Or.inl (xin 672 (by decide +kernel))⟩
theorem xl15_15 : xlok (12, 1, 72, (73, 0, 0, 0, 0, [])) := Or.inl ⟨rfl, xin 959 (by decide +kernel), xin 31 (by decide +kernel), xin 32 (by decide +kernel)⟩
theorem xl15_16 : xlok (12, 7, 151, (51, 0, 12, 3, 4, [])) := ⟨12, 3, 4, rfl, ⟨("ZoneNetModel", xT12, 49), "ZoneNetModel", rfl, by decide, Or.inl rfl, Or.inl (xin 963 (by decide +kernel))⟩, ⟨("ZoneNetModel", xT12, 49), .array .char, rfl, rfl, (fun _ => rfl), by decide +kernel, rfl⟩⟩
theorem xl15_17 : xlok (12, 13, 151, (51, 0, 12, 5, 4, [])) := ⟨12, 5, 4, rfl, ⟨("ZoneNetModel", xT12, 49), "ZoneNetModel", rfl, by decide, Or.inl rfl, Or.inl (xin 965 (by decide +kernel))⟩, ⟨("ZoneNetModel", xT12, 49), .array .char, rfl, rfl, (fun _ => rfl), by decide +kernel, rfl⟩⟩
theorem xl15_18 : xlok (12, 16, 151, (51, 0, 12, 6, 4, [])) := ⟨12, 6, 4, rfl, ⟨("ZoneNetModel", xT12, 49), "ZoneNetModel", rfl, by decide, Or.inl rfl, Or.inl (xin 966 (by decide +kernel))⟩, ⟨("ZoneNetModel", xT12, 49), .array .int, rfl, rfl, (fun _ => rfl), by decide +kernel, rfl⟩⟩
theorem xl15_19 : xlok (12, 20, 151, (51, 0, 12, 8, 4, [])) := ⟨12, 8, 4, rfl, ⟨("ZoneNetModel", xT12, 49), "ZoneNetModel", rfl, by decide, Or.inl rfl, Or.inl (xin 968 (by decide +kernel))⟩, ⟨("ZoneNetModel", xT12, 49), .array .boolean, rfl, rfl, (fun _ => rfl), by decide +kernel, rfl⟩⟩
theorem xlk15 : ∀ q ∈ xlinks15, xlok q := List.forall_mem_cons.mpr ⟨xl15_0, List.forall_mem_cons.mpr ⟨xl15_1, List.forall_mem_cons.mpr ⟨xl15_2, List.forall_mem_cons.mpr ⟨xl15_3, List.forall_mem_cons.mpr ⟨xl15_4, List.forall_mem_cons.mpr ⟨xl15_5, List.forall_mem_cons.mpr ⟨xl15_6, List.forall_mem_cons.mpr ⟨xl15_7, List.forall_mem_cons.mpr ⟨xl15_8, List.forall_mem_cons.mpr ⟨xl15_9, List.forall_mem_cons.mpr ⟨xl15_10, List.forall_mem_cons.mpr ⟨xl15_11, List.forall_mem_cons.mpr ⟨xl15_12, List.forall_mem_cons.mpr ⟨xl15_13, List.forall_mem_cons.mpr ⟨xl15_14, List.forall_mem_cons.mpr ⟨xl15_15, List.forall_mem_cons.mpr ⟨xl15_16, List.forall_mem_cons.mpr ⟨xl15_17, List.forall_mem_cons.mpr ⟨xl15_18, List.forall_mem_cons.mpr ⟨xl15_19, fun w h => absurd h List.not_mem_nil⟩⟩⟩⟩⟩⟩⟩⟩⟩⟩⟩⟩⟩⟩⟩⟩⟩⟩⟩⟩
theorem xl16_0 : xlok (12, 24, 151, (51, 0, 12, 10, 4, [])) := ⟨12, 10, 4, rfl, ⟨("ZoneNetModel", xT12, 49), "ZoneNetModel", rfl, by decide, Or.inl rfl, Or.inl (xin 970 (by decide +kernel))⟩, ⟨("ZoneNetModel", xT12, 49), .array .int, rfl, rfl, (fun _ => rfl), by decide +kernel, rfl⟩⟩
theorem xl16_1 : xlok (12, 27, 151, (51, 0, 12, 11, 4, [])) := ⟨12, 11, 4, rfl, ⟨("ZoneNetModel", xT12, 49), "ZoneNetModel", rfl, by decide, Or.inl rfl, Or.inl (xin 971 (by decide +kernel))⟩, ⟨("ZoneNetModel", xT12, 49), .array .boolean, rfl, rfl, (fun _ => rfl), by decide +kernel, rfl⟩⟩
theorem xl16_2 : xlok (12, 30, 151, (51, 0, 12, 12, 4, [])) := ⟨12, 12, 4, rfl, ⟨("ZoneNetModel", xT12, 49), "ZoneNetModel", rfl, by decide, Or.inl rfl, Or.inl (xin 972 (by decide +kernel))⟩, ⟨("ZoneNetModel", xT12, 49), .array .int, rfl, rfl, (fun _ => rfl), by decide +kernel, rfl⟩⟩
theorem xl16_3 : xlok (12, 33, 151, (51, 0, 12, 13, 4, [])) := ⟨12, 13, 4, rfl, ⟨("ZoneNetModel", xT12, 49), "ZoneNetModel", rfl, by decide, Or.inl rfl, Or.inl (xin 973 (by decide +kernel))⟩, ⟨("ZoneNetModel", xT12, 49), .array .int, rfl, rfl, (fun _ => rfl), by decide +kernel, rfl⟩⟩
theorem xl16_4 : xlok (12, 36, 151, (51, 0, 12, 14, 4, [])) := ⟨12, 14, 4, rfl, ⟨("ZoneNetModel", xT12, 49), "ZoneNetModel", rfl, by decide, Or.inl rfl, Or.inl (xin 974 (by decide +kernel))⟩, ⟨("ZoneNetModel", xT12, 49), .array .int, rfl, rfl, (fun _ => rfl), by decide +kernel, rfl⟩⟩
theorem xl16_5 : xlok (12, 39, 151, (51, 0, 12, 15, 4, [])) := ⟨12, 15, 4, rfl, ⟨("ZoneNetModel", xT12, 49), "ZoneNetModel", rfl, by decide, Or.inl rfl, Or.inl (xin 975 (by decide +kernel))⟩, ⟨("ZoneNetModel", xT12, 49), .array .int, rfl, rfl, (fun _ => rfl), by decide +kernel, rfl⟩⟩
theorem xl16_6 : xlok (12, 42, 151, (51, 0, 12, 16, 4, [])) := ⟨12, 16, 4, rfl, ⟨("ZoneNetModel", xT12, 49), "ZoneNetModel", rfl, by decide, Or.inl rfl, Or.inl (xin 976 (by decide +kernel))⟩, ⟨("ZoneNetModel", xT12, 49), .array .boolean, rfl, rfl, (fun _ => rfl), by decide +kernel, rfl⟩⟩
theorem xl16_7 : xlok (12, 45, 151, (51, 0, 12, 17, 4, [])) := ⟨12, 17, 4, rfl, ⟨("ZoneNetModel", xT12, 49), "ZoneNetModel", rfl, by decide, Or.inl rfl, Or.inl (xin 977 (by decide +kernel))⟩, ⟨("ZoneNetModel", xT12, 49), .array .int, rfl, rfl, (fun _ => rfl), by decide +kernel, rfl⟩⟩
theorem xl16_8 : xlok (12, 48, 151, (51, 0, 12, 18, 4, [])) := ⟨12, 18, 4, rfl, ⟨("ZoneNetModel", xT12, 49), "ZoneNetModel", rfl, by decide, Or.inl rfl, Or.inl (xin 978 (by decide +kernel))⟩, ⟨("ZoneNetModel", xT12, 49), .array .int, rfl, rfl, (fun _ => rfl), by decide +kernel, rfl⟩⟩
theorem xl16_9 : xlok (12, 51, 151, (51, 0, 12, 19, 4, [])) := ⟨12, 19, 4, rfl, ⟨("ZoneNetModel", xT12, 49), "ZoneNetModel", rfl, by decide, Or.inl rfl, Or.inl (xin 979 (by decide +kernel))⟩, ⟨("ZoneNetModel", xT12, 49), .array .int, rfl, rfl, (fun _ => rfl), by decide +kernel, rfl⟩⟩
theorem xl16_10 : xlok (12, 54, 151, (51, 0, 12, 20, 4, [])) := ⟨12, 20, 4, rfl, ⟨("ZoneNetModel", xT12, 49), "ZoneNetModel", rfl, by decide, Or.inl rfl, Or.inl (xin 980 (by decide +kernel))⟩, ⟨("ZoneNetModel", xT12, 49), .array .boolean, rfl, rfl, (fun _ => rfl), by decide +kernel, rfl⟩⟩
theorem xl16_11 : xlok (12, 57, 151, (51, 0, 12, 23, 4, [])) := ⟨12, 23, 4, rfl, ⟨("ZoneNetModel", xT12, 49), "ZoneNetModel", rfl, by decide, Or.inl rfl, Or.inl (xin 983 (by decide +kernel))⟩, ⟨("ZoneNetModel", xT12, 49), .array .int, rfl, rfl, (fun _ => rfl), by decide +kernel, rfl⟩⟩
theorem xl16_12 : xlok (12, 60, 151, (51, 0, 12, 24, 4, [])) := ⟨12, 24, 4, rfl, ⟨("ZoneNetModel", xT12, 49), "ZoneNetModel", rfl, by decide, Or.inl rfl, Or.inl (xin 984 (by decide +kernel))⟩, ⟨("ZoneNetModel", xT12, 49), .array .boolean, rfl, rfl, (fun _ => rfl), by decide +kernel, rfl⟩⟩
theorem xl16_13 : xlok (12, 63, 151, (51, 0, 12, 25, 4, [])) := ⟨12, 25, 4, rfl, ⟨("ZoneNetModel", xT12, 49), "ZoneNetModel", rfl, by decide, Or.inl rfl, Or.inl (xin 985 (by decide +kernel))⟩, ⟨("ZoneNetModel", xT12, 49), .array .int, rfl, rfl, (fun _ => rfl), by decide +kernel, rfl⟩⟩
theorem xl16_14 : xlok (12, 66, 151, (51, 0, 12, 26, 4, [])) := ⟨12, 26, 4, rfl, ⟨("ZoneNetModel", xT12, 49), "ZoneNetModel", rfl, by decide, Or.inl rfl, Or.inl (xin 986 (by decide +kernel))⟩, ⟨("ZoneNetModel", xT12, 49), .array .int, rfl, rfl, (fun _ => rfl), by decide +kernel, rfl⟩⟩
theorem xl16_15 : xlok (12, 69, 151, (51, 0, 12, 27, 4, [])) := ⟨12, 27, 4, rfl, ⟨("ZoneNetModel", xT12, 49), "ZoneNetModel", rfl, by decide, Or.inl rfl, Or.inl (xin 987 (by decide +kernel))⟩, ⟨("ZoneNetModel", xT12, 49), .array .int, rfl, rfl, (fun _ => rfl), by decide +kernel, rfl⟩⟩
theorem xl16_16 : xlok (12, 72, 151, (51, 0, 12, 28, 4, [])) := ⟨12, 28, 4, rfl, ⟨("ZoneNetModel", xT12, 49), "ZoneNetModel", rfl, by decide, Or.inl rfl, Or.inl (xin 988 (by decide +kernel))⟩, ⟨("ZoneNetModel", xT12, 49), .array .int, rfl, rfl, (fun _ => rfl), by decide +kernel, rfl⟩⟩
theorem xl16_17 : xlok (12, 75, 151, (51, 0, 12, 29, 4, [])) := ⟨12, 29, 4, rfl, ⟨("ZoneNetModel", xT12, 49), "ZoneNetModel", rfl, by decide, Or.inl rfl, Or.inl (xin 989 (by decide +kernel))⟩, ⟨("ZoneNetModel", xT12, 49), .array .int, rfl, rfl, (fun _ => rfl), by decide +kernel, rfl⟩⟩
theorem xl16_18 : xlok (12, 78, 151, (51, 0, 12, 30, 4, [])) := ⟨12, 30, 4, rfl, ⟨("ZoneNetModel", xT12, 49), "ZoneNetModel", rfl, by decide, Or.inl rfl, Or.inl (xin 990 (by decide +kernel))⟩, ⟨("ZoneNetModel", xT12, 49), .array .int, rfl, rfl, (fun _ => rfl), by decide +kernel, rfl⟩⟩
theorem xl16_19 : xlok (12, 81, 151, (51, 0, 12, 31, 4, [])) := ⟨12, 31, 4, rfl, ⟨("ZoneNetModel", xT12, 49), "ZoneNetModel", rfl, by decide, Or.inl rfl, Or.inl (xin 991 (by decide +kernel))⟩, ⟨("ZoneNetModel", xT12, 49), .array .int, rfl, rfl, (fun _ => rfl), by decide +kernel, rfl⟩⟩
theorem xlk16 : ∀ q ∈ xlinks16, xlok q := List.forall_mem_cons.mpr ⟨xl16_0, List.forall_mem_cons.mpr ⟨xl16_1, List.forall_mem_cons.mpr ⟨xl16_2, List.forall_mem_cons.mpr ⟨xl16_3, List.forall_mem_cons.mpr ⟨xl16_4, List.forall_mem_cons.mpr ⟨xl16_5, List.forall_mem_cons.mpr ⟨xl16_6, List.forall_mem_cons.mpr ⟨xl16_7, List.forall_mem_cons.mpr ⟨xl16_8, List.forall_mem_cons.mpr ⟨xl16_9, List.forall_mem_cons.mpr ⟨xl16_10, List.forall_mem_cons.mpr ⟨xl16_11, List.forall_mem_cons.mpr ⟨xl16_12, List.forall_mem_cons.mpr ⟨xl16_13, List.forall_mem_cons.mpr ⟨xl16_14, List.forall_mem_cons.mpr ⟨xl16_15, List.forall_mem_cons.mpr ⟨xl16_16, List.forall_mem_cons.mpr ⟨xl16_17, List.forall_mem_cons.mpr ⟨xl16_18, List.forall_mem_cons.mpr ⟨xl16_19, fun w h => absurd h List.not_mem_nil⟩⟩⟩⟩⟩⟩⟩⟩⟩⟩⟩⟩⟩⟩⟩⟩⟩⟩⟩⟩
theorem xl17_0 : xlok (12, 84, 151, (51, 0, 12, 32, 4, [])) := ⟨12, 32, 4, rfl, ⟨("ZoneNetModel", xT12, 49), "ZoneNetModel", rfl, by decide, Or.inl rfl, Or.inl (xin 992 (by decide +kernel))⟩, ⟨("ZoneNetModel", xT12, 49), .array .int, rfl, rfl, (fun _ => rfl), by decide +kernel, rfl⟩⟩
theorem xl17_1 : xlok (12, 87, 151, (51, 0, 12, 35, 4, [])) := ⟨12, 35, 4, rfl, ⟨("ZoneNetModel", xT12, 49), "ZoneNetModel", rfl, by decide, Or.inl rfl, Or.inl (xin 995 (by decide +kernel))⟩, ⟨("ZoneNetModel", xT12, 49), .array .int, rfl, rfl, (fun _ => rfl), by decide +kernel, rfl⟩⟩
theorem xl17_2 : xlok (12, 90, 151, (51, 0, 12, 36, 4, [])) := ⟨12, 36, 4, rfl, ⟨("ZoneNetModel", xT12, 49), "ZoneNetModel", rfl, by decide, Or.inl rfl, Or.inl (xin 996 (by decide +kernel))⟩, ⟨("ZoneNetModel", xT12, 49), .array .int, rfl, rfl, (fun _ => rfl), by decide +kernel, rfl⟩⟩
theorem xl17_3 : xlok (12, 93, 151, (51, 0, 12, 37, 4, [])) := ⟨12, 37, 4, rfl, ⟨("ZoneNetModel", xT12, 49), "ZoneNetModel", rfl, by decide, Or.inl rfl, Or.inl (xin 997 (by decide +kernel))⟩, ⟨("ZoneNetModel", xT12, 49), .array .boolean, rfl, rfl, (fun _ => rfl), by decide +kernel, rfl⟩⟩
theorem xl17_4 : xlok (12, 96, 151, (51, 0, 12, 38, 4, [])) := ⟨12, 38, 4, rfl, ⟨("ZoneNetModel", xT12, 49), "ZoneNetModel", rfl, by decide, Or.inl rfl, Or.inl (xin 998 (by decide +kernel))⟩, ⟨("ZoneNetModel", xT12, 49), .array .int, rfl, rfl, (fun _ => rfl), by decide +kernel, rfl⟩⟩
theorem xl17_5 : xlok (12, 99, 151, (51, 0, 12, 39, 4, [])) := ⟨12, 39, 4, rfl, ⟨("ZoneNetModel", xT12, 49), "ZoneNetModel", rfl, by decide, Or.inl rfl, Or.inl (xin 999 (by decide +kernel))⟩, ⟨("ZoneNetModel", xT12, 49), .array .int, rfl, rfl, (fun _ => rfl), by decide +kernel, rfl⟩⟩
theorem xl17_6 : xlok (12, 102, 151, (51, 0, 12, 40, 4, [])) := ⟨12, 40, 4, rfl, ⟨("ZoneNetModel", xT12, 49), "ZoneNetModel", rfl, by decide, Or.inl rfl, Or.inl (xin 1000 (by decide +kernel))⟩, ⟨("ZoneNetModel", xT12, 49), .array .int, rfl, rfl, (fun _ => rfl), by decide +kernel, rfl⟩⟩
theorem xl17_7 : xlok (12, 105, 151, (51, 0, 12, 41, 4, [])) := ⟨12, 41, 4, rfl, ⟨("ZoneNetModel", xT12, 49), "ZoneNetModel", rfl, by decide, Or.inl rfl, Or.inl (xin 1001 (by decide +kernel))⟩, ⟨("ZoneNetModel", xT12, 49), .array .int, rfl, rfl, (fun _ => rfl), by decide +kernel, rfl⟩⟩
theorem xl17_8 : xlok (12, 108, 151, (51, 0, 12, 42, 4, [])) := ⟨12, 42, 4, rfl, ⟨("ZoneNetModel", xT12, 49), "ZoneNetModel", rfl, by decide, Or.inl rfl, Or.inl (xin 1002 (by decide +kernel))⟩, ⟨("ZoneNetModel", xT12, 49), .array .int, rfl, rfl, (fun _ => rfl), by decide +kernel, rfl⟩⟩
theorem xl17_9 : xlok (12, 111, 151, (51, 0, 12, 43, 4, [])) := ⟨12, 43, 4, rfl, ⟨("ZoneNetModel", xT12, 49), "ZoneNetModel", rfl, by decide, Or.inl rfl, Or.inl (xin 1003 (by decide +kernel))⟩, ⟨("ZoneNetModel", xT12, 49), .array .int, rfl, rfl, (fun _ => rfl), by decide +kernel, rfl⟩⟩
theorem xl17_10 : xlok (12, 114, 151, (51, 0, 12, 44, 4, [])) := ⟨12, 44, 4, rfl, ⟨("ZoneNetModel", xT12, 49), "ZoneNetModel", rfl, by decide, Or.inl rfl, Or.inl (xin 1004 (by decide +kernel))⟩, ⟨("ZoneNetModel", xT12, 49), .array .int, rfl, rfl, (fun _ => rfl), by decide +kernel, rfl⟩⟩
theorem xl17_11 : xlok (12, 117, 151, (51, 0, 12, 45, 4, [])) := ⟨12, 45, 4, rfl, ⟨("ZoneNetModel", xT12, 49), "ZoneNetModel", rfl, by decide, Or.inl rfl, Or.inl (xin 1005 (by decide +kernel))⟩, ⟨("ZoneNetModel", xT12, 49), .array .int, rfl, rfl, (fun _ => rfl), by decide +kernel, rfl⟩⟩
theorem xl17_12 : xlok (12, 120, 151, (51, 0, 12, 46, 4, [])) := ⟨12, 46, 4, rfl, ⟨("ZoneNetModel", xT12, 49), "ZoneNetModel", rfl, by decide, Or.inl rfl, Or.inl (xin 1006 (by decide +kernel))⟩, ⟨("ZoneNetModel", xT12, 49), .array .int, rfl, rfl, (fun _ => rfl), by decide +kernel, rfl⟩⟩
theorem xl17_13 : xlok (12, 123, 151, (51, 0, 12, 0, 0, [])) := ⟨12, 0, 0, rfl, ⟨("ZoneNetModel", xT12, 49), "ZoneNetModel", rfl, by decide, Or.inl rfl, Or.inl (xin 960 (by decide +kernel))⟩, ⟨("ZoneNetModel", xT12, 49), .int, rfl, rfl, (fun _ => rfl), by decide +kernel, rfl⟩⟩
theorem xl17_14 : xlok (12, 127, 151, (51, 0, 12, 1, 0, [])) := ⟨12, 1, 0, rfl, ⟨("ZoneNetModel", xT12, 49), "ZoneNetModel", rfl, by decide, Or.inl rfl, Or.inl (xin 961 (by decide +kernel))⟩, ⟨("ZoneNetModel", xT12, 49), .int, rfl, rfl, (fun _ => rfl), by decide +kernel, rfl⟩⟩
theorem xl17_15 : xlok (12, 130, 151, (51, 0, 12, 2, 0, [])) := ⟨12, 2, 0, rfl, ⟨("ZoneNetModel", xT12, 49), "ZoneNetModel", rfl, by decide, Or.inl rfl, Or.inl (xin 962 (by decide +kernel))⟩, ⟨("ZoneNetModel", xT12, 49), .int, rfl, rfl, (fun _ => rfl), by decide +kernel, rfl⟩⟩
theorem xl17_16 : xlok (12, 30, 50, (50, 0, 12, 12, 0, [])) := ⟨12, 12, rfl, ⟨("ZoneNetModel", xT12, 49), "ZoneNetModel", rfl, by decide, Or.inl rfl, Or.inl (xin 972 (by decide +kernel))⟩⟩
theorem xl17_17 : xlok (12, 133, 50, (50, 0, 12, 4, 0, [])) := ⟨12, 4, rfl, ⟨("ZoneNetModel", xT12, 49), "ZoneNetModel", rfl, by decide, Or.inl rfl, Or.inl (xin 964 (by decide +kernel))⟩⟩
theorem xl17_18 : xlok (12, 7, 50, (50, 0, 12, 3, 0, [])) := ⟨12, 3, rfl, ⟨("ZoneNetModel", xT12, 49), "ZoneNetModel", rfl, by decide, Or.inl rfl, Or.inl (xin 963 (by decide +kernel))⟩⟩
theorem xl17_19 : xlok (12, 133, 51, (51, 0, 12, 4, 0, [])) := ⟨12, 4, 0, rfl, ⟨("ZoneNetModel", xT12, 49), "ZoneNetModel", rfl, by decide, Or.inl rfl, Or.inl (xin 964 (by decide +kernel))⟩, ⟨("ZoneNetModel", xT12, 49), .int, rfl, rfl, (fun z => nomatch z), by decide +kernel, rfl⟩⟩
theorem xlk17 : ∀ q ∈ xlinks17, xlok q := List.forall_mem_cons.mpr ⟨xl17_0, List.forall_mem_cons.mpr ⟨xl17_1, List.forall_mem_cons.mpr ⟨xl17_2, List.forall_mem_cons.mpr ⟨xl17_3, List.forall_mem_cons.mpr ⟨xl17_4, List.forall_mem_cons.mpr ⟨xl17_5, List.forall_mem_cons.mpr ⟨xl17_6, List.forall_mem_cons.mpr ⟨xl17_7, List.forall_mem_cons.mpr ⟨xl17_8, List.forall_mem_cons.mpr ⟨xl17_9, List.forall_mem_cons.mpr ⟨xl17_10, List.forall_mem_cons.mpr ⟨xl17_11, List.forall_mem_cons.mpr ⟨xl17_12, List.forall_mem_cons.mpr ⟨xl17_13, List.forall_mem_cons.mpr ⟨xl17_14, List.forall_mem_cons.mpr ⟨xl17_15, List.forall_mem_cons.mpr ⟨xl17_16, List.forall_mem_cons.mpr ⟨xl17_17, List.forall_mem_cons.mpr ⟨xl17_18, List.forall_mem_cons.mpr ⟨xl17_19, fun w h => absurd h List.not_mem_nil⟩⟩⟩⟩⟩⟩⟩⟩⟩⟩⟩⟩⟩⟩⟩⟩⟩⟩⟩⟩
theorem xl18_0 : xlok (12, 144, 70, (70, 0, 100, 2, 12, [])) := ⟨100, 2, 12, ("ZoneNetModel", xT12, 49), rfl, rfl, xce100, xin 1119 (by decide +kernel), Or.inl (xsel ⟨"ZoneNetModel", "isName", "(II)Z"⟩ 49 (by decide +kernel)), Or.inl (xin 1117 (by decide +kernel))⟩
theorem xl18_1 : xlok (12, 159, 50, (50, 0, 12, 7, 0, [])) := ⟨12, 7, rfl, ⟨("ZoneNetModel", xT12, 49), "ZoneNetModel", rfl, by decide, Or.inl rfl, Or.inl (xin 967 (by decide +kernel))⟩⟩
theorem xl18_2 : xlok (12, 162, 70, (70, 0, 101, 3, 12, [])) := ⟨101, 3, 12, ("ZoneNetModel", xT12, 49), rfl, rfl, xce101, xin 1130 (by decide +kernel), Or.inl (xsel ⟨"ZoneNetModel", "keep", "(III)V"⟩ 49 (by decide +kernel)), Or.inl (xin 1128 (by decide +kernel))⟩
theorem xl18_3 : xlok (12, 159, 51, (51, 0, 12, 7, 0, [])) := ⟨12, 7, 0, rfl, ⟨("ZoneNetModel", xT12, 49), "ZoneNetModel", rfl, by decide, Or.inl rfl, Or.inl (xin 967 (by decide +kernel))⟩, ⟨("ZoneNetModel", xT12, 49), .int, rfl, rfl, (fun z => nomatch z), by decide +kernel, rfl⟩⟩
theorem xl18_4 : xlok (12, 169, 50, (50, 0, 12, 9, 0, [])) := ⟨12, 9, rfl, ⟨("ZoneNetModel", xT12, 49), "ZoneNetModel", rfl, by decide, Or.inl rfl, Or.inl (xin 969 (by decide +kernel))⟩⟩
theorem xl18_5 : xlok (12, 24, 50, (50, 0, 12, 10, 0, [])) := ⟨12, 10, rfl, ⟨("ZoneNetModel", xT12, 49), "ZoneNetModel", rfl, by decide, Or.inl rfl, Or.inl (xin 970 (by decide +kernel))⟩⟩
theorem xl18_6 : xlok (12, 27, 50, (50, 0, 12, 11, 0, [])) := ⟨12, 11, rfl, ⟨("ZoneNetModel", xT12, 49), "ZoneNetModel", rfl, by decide, Or.inl rfl, Or.inl (xin 971 (by decide +kernel))⟩⟩
theorem xl18_7 : xlok (12, 172, 70, (70, 0, 102, 1, 12, [])) := ⟨102, 1, 12, ("ZoneNetModel", xT12, 49), rfl, rfl, xce102, xin 1138 (by decide +kernel), Or.inl (xsel ⟨"ZoneNetModel", "fresh", "(I)V"⟩ 49 (by decide +kernel)), Or.inl (xin 1136 (by decide +kernel))⟩
theorem xl18_8 : xlok (12, 169, 51, (51, 0, 12, 9, 0, [])) := ⟨12, 9, 0, rfl, ⟨("ZoneNetModel", xT12, 49), "ZoneNetModel", rfl, by decide, Or.inl rfl, Or.inl (xin 969 (by decide +kernel))⟩, ⟨("ZoneNetModel", xT12, 49), .int, rfl, rfl, (fun z => nomatch z), by decide +kernel, rfl⟩⟩
theorem xl18_9 : xlok (12, 20, 50, (50, 0, 12, 8, 0, [])) := ⟨12, 8, rfl, ⟨("ZoneNetModel", xT12, 49), "ZoneNetModel", rfl, by decide, Or.inl rfl, Or.inl (xin 968 (by decide +kernel))⟩⟩
theorem xl18_10 : xlok (12, 219, 70, (70, 0, 103, 1, 12, [])) := ⟨103, 1, 12, ("ZoneNetModel", xT12, 49), rfl, rfl, xce103, xin 1222 (by decide +kernel), Or.inl (xsel ⟨"ZoneNetModel", "isNode", "(I)Z"⟩ 49 (by decide +kernel)), Or.inl (xin 1220 (by decide +kernel))⟩
theorem xl18_11 : xlok (12, 223, 70, (70, 0, 104, 1, 12, [])) := ⟨104, 1, 12, ("ZoneNetModel", xT12, 49), rfl, rfl, xce104, xin 1226 (by decide +kernel), Or.inl (xsel ⟨"ZoneNetModel", "make", "(I)I"⟩ 49 (by decide +kernel)), Or.inl (xin 1224 (by decide +kernel))⟩
theorem xl18_12 : xlok (12, 203, 50, (50, 0, 12, 22, 0, [])) := ⟨12, 22, rfl, ⟨("ZoneNetModel", xT12, 49), "ZoneNetModel", rfl, by decide, Or.inl rfl, Or.inl (xin 982 (by decide +kernel))⟩⟩
theorem xl18_13 : xlok (12, 60, 50, (50, 0, 12, 24, 0, [])) := ⟨12, 24, rfl, ⟨("ZoneNetModel", xT12, 49), "ZoneNetModel", rfl, by decide, Or.inl rfl, Or.inl (xin 984 (by decide +kernel))⟩⟩
theorem xl18_14 : xlok (12, 241, 70, (70, 0, 105, 1, 12, [])) := ⟨105, 1, 12, ("ZoneNetModel", xT12, 49), rfl, rfl, xce105, xin 1265 (by decide +kernel), Or.inl (xsel ⟨"ZoneNetModel", "search", "(I)I"⟩ 49 (by decide +kernel)), Or.inl (xin 1263 (by decide +kernel))⟩
theorem xl18_15 : xlok (12, 247, 50, (50, 0, 12, 33, 0, [])) := ⟨12, 33, rfl, ⟨("ZoneNetModel", xT12, 49), "ZoneNetModel", rfl, by decide, Or.inl rfl, Or.inl (xin 993 (by decide +kernel))⟩⟩
theorem xl18_16 : xlok (12, 84, 50, (50, 0, 12, 32, 0, [])) := ⟨12, 32, rfl, ⟨("ZoneNetModel", xT12, 49), "ZoneNetModel", rfl, by decide, Or.inl rfl, Or.inl (xin 992 (by decide +kernel))⟩⟩
theorem xl18_17 : xlok (12, 187, 50, (50, 0, 12, 21, 0, [])) := ⟨12, 21, rfl, ⟨("ZoneNetModel", xT12, 49), "ZoneNetModel", rfl, by decide, Or.inl rfl, Or.inl (xin 981 (by decide +kernel))⟩⟩
theorem xl18_18 : xlok (12, 187, 51, (51, 0, 12, 21, 0, [])) := ⟨12, 21, 0, rfl, ⟨("ZoneNetModel", xT12, 49), "ZoneNetModel", rfl, by decide, Or.inl rfl, Or.inl (xin 981 (by decide +kernel))⟩, ⟨("ZoneNetModel", xT12, 49), .int, rfl, rfl, (fun z => nomatch z), by decide +kernel, rfl⟩⟩
theorem xl18_19 : xlok (12, 190, 70, (70, 0, 106, 0, 12, [])) := ⟨106, 0, 12, ("ZoneNetModel", xT12, 49), rfl, rfl, xce106, xin 1174 (by decide +kernel), Or.inl (xsel ⟨"ZoneNetModel", "copy", "()I"⟩ 49 (by decide +kernel)), Or.inl (xin 1172 (by decide +kernel))⟩
theorem xlk18 : ∀ q ∈ xlinks18, xlok q := List.forall_mem_cons.mpr ⟨xl18_0, List.forall_mem_cons.mpr ⟨xl18_1, List.forall_mem_cons.mpr ⟨xl18_2, List.forall_mem_cons.mpr ⟨xl18_3, List.forall_mem_cons.mpr ⟨xl18_4, List.forall_mem_cons.mpr ⟨xl18_5, List.forall_mem_cons.mpr ⟨xl18_6, List.forall_mem_cons.mpr ⟨xl18_7, List.forall_mem_cons.mpr ⟨xl18_8, List.forall_mem_cons.mpr ⟨xl18_9, List.forall_mem_cons.mpr ⟨xl18_10, List.forall_mem_cons.mpr ⟨xl18_11, List.forall_mem_cons.mpr ⟨xl18_12, List.forall_mem_cons.mpr ⟨xl18_13, List.forall_mem_cons.mpr ⟨xl18_14, List.forall_mem_cons.mpr ⟨xl18_15, List.forall_mem_cons.mpr ⟨xl18_16, List.forall_mem_cons.mpr ⟨xl18_17, List.forall_mem_cons.mpr ⟨xl18_18, List.forall_mem_cons.mpr ⟨xl18_19, fun w h => absurd h List.not_mem_nil⟩⟩⟩⟩⟩⟩⟩⟩⟩⟩⟩⟩⟩⟩⟩⟩⟩⟩⟩⟩
theorem xl19_0 : xlok (12, 194, 70, (70, 0, 107, 0, 12, [])) := ⟨107, 0, 12, ("ZoneNetModel", xT12, 49), rfl, rfl, xce107, xin 1178 (by decide +kernel), Or.inl (xsel ⟨"ZoneNetModel", "age", "()V"⟩ 49 (by decide +kernel)), Or.inl (xin 1176 (by decide +kernel))⟩
theorem xl19_1 : xlok (12, 197, 70, (70, 0, 108, 1, 12, [])) := ⟨108, 1, 12, ("ZoneNetModel", xT12, 49), rfl, rfl, xce108, xin 1182 (by decide +kernel), Or.inl (xsel ⟨"ZoneNetModel", "takeAll", "(I)V"⟩ 49 (by decide +kernel)), Or.inl (xin 1180 (by decide +kernel))⟩
theorem xl19_2 : xlok (12, 200, 70, (70, 0, 109, 0, 12, [])) := ⟨109, 0, 12, ("ZoneNetModel", xT12, 49), rfl, rfl, xce109, xin 1190 (by decide +kernel), Or.inl (xsel ⟨"ZoneNetModel", "zones", "()V"⟩ 49 (by decide +kernel)), Or.inl (xin 1188 (by decide +kernel))⟩
theorem xl19_3 : xlok (12, 69, 50, (50, 0, 12, 27, 0, [])) := ⟨12, 27, rfl, ⟨("ZoneNetModel", xT12, 49), "ZoneNetModel", rfl, by decide, Or.inl rfl, Or.inl (xin 987 (by decide +kernel))⟩⟩
theorem xl19_4 : xlok (12, 81, 50, (50, 0, 12, 31, 0, [])) := ⟨12, 31, rfl, ⟨("ZoneNetModel", xT12, 49), "ZoneNetModel", rfl, by decide, Or.inl rfl, Or.inl (xin 991 (by decide +kernel))⟩⟩
theorem xl19_5 : xlok (12, 130, 50, (50, 0, 12, 2, 0, [])) := ⟨12, 2, rfl, ⟨("ZoneNetModel", xT12, 49), "ZoneNetModel", rfl, by decide, Or.inl rfl, Or.inl (xin 962 (by decide +kernel))⟩⟩
theorem xl19_6 : xlok (12, 206, 70, (70, 0, 110, 2, 12, [])) := ⟨110, 2, 12, ("ZoneNetModel", xT12, 49), rfl, rfl, xce110, xin 1194 (by decide +kernel), Or.inl (xsel ⟨"ZoneNetModel", "strike", "(II)V"⟩ 49 (by decide +kernel)), Or.inl (xin 1192 (by decide +kernel))⟩
theorem xl19_7 : xlok (12, 210, 50, (50, 0, 12, 34, 0, [])) := ⟨12, 34, rfl, ⟨("ZoneNetModel", xT12, 49), "ZoneNetModel", rfl, by decide, Or.inl rfl, Or.inl (xin 994 (by decide +kernel))⟩⟩
theorem xl19_8 : xlok (12, 213, 70, (70, 0, 111, 1, 12, [])) := ⟨111, 1, 12, ("ZoneNetModel", xT12, 49), rfl, rfl, xce111, xin 1198 (by decide +kernel), Or.inl (xsel ⟨"ZoneNetModel", "silent", "(I)V"⟩ 49 (by decide +kernel)), Or.inl (xin 1196 (by decide +kernel))⟩
theorem xl19_9 : xlok (12, 102, 50, (50, 0, 12, 40, 0, [])) := ⟨12, 40, rfl, ⟨("ZoneNetModel", xT12, 49), "ZoneNetModel", rfl, by decide, Or.inl rfl, Or.inl (xin 1000 (by decide +kernel))⟩⟩
theorem xl19_10 : xlok (12, 117, 50, (50, 0, 12, 45, 0, [])) := ⟨12, 45, rfl, ⟨("ZoneNetModel", xT12, 49), "ZoneNetModel", rfl, by decide, Or.inl rfl, Or.inl (xin 1005 (by decide +kernel))⟩⟩
theorem xl19_11 : xlok (12, 123, 50, (50, 0, 12, 0, 0, [])) := ⟨12, 0, rfl, ⟨("ZoneNetModel", xT12, 49), "ZoneNetModel", rfl, by decide, Or.inl rfl, Or.inl (xin 960 (by decide +kernel))⟩⟩
theorem xl19_12 : xlok (12, 114, 50, (50, 0, 12, 44, 0, [])) := ⟨12, 44, rfl, ⟨("ZoneNetModel", xT12, 49), "ZoneNetModel", rfl, by decide, Or.inl rfl, Or.inl (xin 1004 (by decide +kernel))⟩⟩
theorem xl19_13 : xlok (12, 127, 50, (50, 0, 12, 1, 0, [])) := ⟨12, 1, rfl, ⟨("ZoneNetModel", xT12, 49), "ZoneNetModel", rfl, by decide, Or.inl rfl, Or.inl (xin 961 (by decide +kernel))⟩⟩
theorem xl19_14 : xlok (12, 216, 70, (70, 0, 112, 1, 12, [])) := ⟨112, 1, 12, ("ZoneNetModel", xT12, 49), rfl, rfl, xce112, xin 1202 (by decide +kernel), Or.inl (xsel ⟨"ZoneNetModel", "attempt", "(I)V"⟩ 49 (by decide +kernel)), Or.inl (xin 1200 (by decide +kernel))⟩
theorem xl19_15 : xlok (12, 39, 50, (50, 0, 12, 15, 0, [])) := ⟨12, 15, rfl, ⟨("ZoneNetModel", xT12, 49), "ZoneNetModel", rfl, by decide, Or.inl rfl, Or.inl (xin 975 (by decide +kernel))⟩⟩
theorem xl19_16 : xlok (12, 42, 50, (50, 0, 12, 16, 0, [])) := ⟨12, 16, rfl, ⟨("ZoneNetModel", xT12, 49), "ZoneNetModel", rfl, by decide, Or.inl rfl, Or.inl (xin 976 (by decide +kernel))⟩⟩
theorem xl19_17 : xlok (12, 33, 50, (50, 0, 12, 13, 0, [])) := ⟨12, 13, rfl, ⟨("ZoneNetModel", xT12, 49), "ZoneNetModel", rfl, by decide, Or.inl rfl, Or.inl (xin 973 (by decide +kernel))⟩⟩
theorem xl19_18 : xlok (12, 36, 50, (50, 0, 12, 14, 0, [])) := ⟨12, 14, rfl, ⟨("ZoneNetModel", xT12, 49), "ZoneNetModel", rfl, by decide, Or.inl rfl, Or.inl (xin 974 (by decide +kernel))⟩⟩
theorem xl19_19 : xlok (12, 180, 70, (70, 0, 113, 2, 12, [])) := ⟨113, 2, 12, ("ZoneNetModel", xT12, 49), rfl, rfl, xce113, xin 1158 (by decide +kernel), Or.inl (xsel ⟨"ZoneNetModel", "way", "(II)I"⟩ 49 (by decide +kernel)), Or.inl (xin 1156 (by decide +kernel))⟩
theorem xlk19 : ∀ q ∈ xlinks19, xlok q := List.forall_mem_cons.mpr ⟨xl19_0, List.forall_mem_cons.mpr ⟨xl19_1, List.forall_mem_cons.mpr ⟨xl19_2, List.forall_mem_cons.mpr ⟨xl19_3, List.forall_mem_cons.mpr ⟨xl19_4, List.forall_mem_cons.mpr ⟨xl19_5, List.forall_mem_cons.mpr ⟨xl19_6, List.forall_mem_cons.mpr ⟨xl19_7, List.forall_mem_cons.mpr ⟨xl19_8, List.forall_mem_cons.mpr ⟨xl19_9, List.forall_mem_cons.mpr ⟨xl19_10, List.forall_mem_cons.mpr ⟨xl19_11, List.forall_mem_cons.mpr ⟨xl19_12, List.forall_mem_cons.mpr ⟨xl19_13, List.forall_mem_cons.mpr ⟨xl19_14, List.forall_mem_cons.mpr ⟨xl19_15, List.forall_mem_cons.mpr ⟨xl19_16, List.forall_mem_cons.mpr ⟨xl19_17, List.forall_mem_cons.mpr ⟨xl19_18, List.forall_mem_cons.mpr ⟨xl19_19, fun w h => absurd h List.not_mem_nil⟩⟩⟩⟩⟩⟩⟩⟩⟩⟩⟩⟩⟩⟩⟩⟩⟩⟩⟩⟩
theorem xl20_0 : xlok (12, 57, 50, (50, 0, 12, 23, 0, [])) := ⟨12, 23, rfl, ⟨("ZoneNetModel", xT12, 49), "ZoneNetModel", rfl, by decide, Or.inl rfl, Or.inl (xin 983 (by decide +kernel))⟩⟩
theorem xl20_1 : xlok (12, 87, 50, (50, 0, 12, 35, 0, [])) := ⟨12, 35, rfl, ⟨("ZoneNetModel", xT12, 49), "ZoneNetModel", rfl, by decide, Or.inl rfl, Or.inl (xin 995 (by decide +kernel))⟩⟩
theorem xl20_2 : xlok (12, 90, 50, (50, 0, 12, 36, 0, [])) := ⟨12, 36, rfl, ⟨("ZoneNetModel", xT12, 49), "ZoneNetModel", rfl, by decide, Or.inl rfl, Or.inl (xin 996 (by decide +kernel))⟩⟩
theorem xl20_3 : xlok (12, 210, 51, (51, 0, 12, 34, 0, [])) := ⟨12, 34, 0, rfl, ⟨("ZoneNetModel", xT12, 49), "ZoneNetModel", rfl, by decide, Or.inl rfl, Or.inl (xin 994 (by decide +kernel))⟩, ⟨("ZoneNetModel", xT12, 49), .int, rfl, rfl, (fun z => nomatch z), by decide +kernel, rfl⟩⟩
theorem xl20_4 : xlok (12, 250, 70, (70, 0, 114, 1, 12, [])) := ⟨114, 1, 12, ("ZoneNetModel", xT12, 49), rfl, rfl, xce114, xin 1289 (by decide +kernel), Or.inl (xsel ⟨"ZoneNetModel", "isSession", "(I)Z"⟩ 49 (by decide +kernel)), Or.inl (xin 1287 (by decide +kernel))⟩
theorem xl20_5 : xlok (12, 93, 50, (50, 0, 12, 37, 0, [])) := ⟨12, 37, rfl, ⟨("ZoneNetModel", xT12, 49), "ZoneNetModel", rfl, by decide, Or.inl rfl, Or.inl (xin 997 (by decide +kernel))⟩⟩
theorem xl20_6 : xlok (12, 99, 50, (50, 0, 12, 39, 0, [])) := ⟨12, 39, rfl, ⟨("ZoneNetModel", xT12, 49), "ZoneNetModel", rfl, by decide, Or.inl rfl, Or.inl (xin 999 (by decide +kernel))⟩⟩
theorem xl20_7 : xlok (12, 105, 50, (50, 0, 12, 41, 0, [])) := ⟨12, 41, rfl, ⟨("ZoneNetModel", xT12, 49), "ZoneNetModel", rfl, by decide, Or.inl rfl, Or.inl (xin 1001 (by decide +kernel))⟩⟩
theorem xl20_8 : xlok (12, 108, 50, (50, 0, 12, 42, 0, [])) := ⟨12, 42, rfl, ⟨("ZoneNetModel", xT12, 49), "ZoneNetModel", rfl, by decide, Or.inl rfl, Or.inl (xin 1002 (by decide +kernel))⟩⟩
theorem xl20_9 : xlok (12, 111, 50, (50, 0, 12, 43, 0, [])) := ⟨12, 43, rfl, ⟨("ZoneNetModel", xT12, 49), "ZoneNetModel", rfl, by decide, Or.inl rfl, Or.inl (xin 1003 (by decide +kernel))⟩⟩
theorem xl20_10 : xlok (12, 120, 50, (50, 0, 12, 46, 0, [])) := ⟨12, 46, rfl, ⟨("ZoneNetModel", xT12, 49), "ZoneNetModel", rfl, by decide, Or.inl rfl, Or.inl (xin 1006 (by decide +kernel))⟩⟩
theorem xl20_11 : xlok (12, 66, 50, (50, 0, 12, 26, 0, [])) := ⟨12, 26, rfl, ⟨("ZoneNetModel", xT12, 49), "ZoneNetModel", rfl, by decide, Or.inl rfl, Or.inl (xin 986 (by decide +kernel))⟩⟩
theorem xl20_12 : xlok (12, 63, 50, (50, 0, 12, 25, 0, [])) := ⟨12, 25, rfl, ⟨("ZoneNetModel", xT12, 49), "ZoneNetModel", rfl, by decide, Or.inl rfl, Or.inl (xin 985 (by decide +kernel))⟩⟩
theorem xl20_13 : xlok (12, 253, 51, (51, 0, 12, 47, 0, [])) := ⟨12, 47, 0, rfl, ⟨("ZoneNetModel", xT12, 49), "ZoneNetModel", rfl, by decide, Or.inl rfl, Or.inl (xin 1007 (by decide +kernel))⟩, ⟨("ZoneNetModel", xT12, 49), .int, rfl, rfl, (fun z => nomatch z), by decide +kernel, rfl⟩⟩
theorem xl20_14 : xlok (12, 256, 50, (50, 0, 12, 48, 0, [])) := ⟨12, 48, rfl, ⟨("ZoneNetModel", xT12, 49), "ZoneNetModel", rfl, by decide, Or.inl rfl, Or.inl (xin 1008 (by decide +kernel))⟩⟩
theorem xl20_15 : xlok (12, 140, 70, (70, 0, 115, 2, 12, [])) := ⟨115, 2, 12, ("ZoneNetModel", xT12, 49), rfl, rfl, xce115, xin 1123 (by decide +kernel), Or.inl (xsel ⟨"ZoneNetModel", "signs", "(II)I"⟩ 49 (by decide +kernel)), Or.inl (xin 1121 (by decide +kernel))⟩
theorem xl20_16 : xlok (12, 13, 50, (50, 0, 12, 5, 0, [])) := ⟨12, 5, rfl, ⟨("ZoneNetModel", xT12, 49), "ZoneNetModel", rfl, by decide, Or.inl rfl, Or.inl (xin 965 (by decide +kernel))⟩⟩
theorem xl20_17 : xlok (12, 16, 50, (50, 0, 12, 6, 0, [])) := ⟨12, 6, rfl, ⟨("ZoneNetModel", xT12, 49), "ZoneNetModel", rfl, by decide, Or.inl rfl, Or.inl (xin 966 (by decide +kernel))⟩⟩
theorem xl20_18 : xlok (12, 166, 70, (70, 0, 116, 2, 12, [])) := ⟨116, 2, 12, ("ZoneNetModel", xT12, 49), rfl, rfl, xce116, xin 1142 (by decide +kernel), Or.inl (xsel ⟨"ZoneNetModel", "has", "(II)Z"⟩ 49 (by decide +kernel)), Or.inl (xin 1140 (by decide +kernel))⟩
theorem xl20_19 : xlok (12, 226, 70, (70, 0, 117, 1, 12, [])) := ⟨117, 1, 12, ("ZoneNetModel", xT12, 49), rfl, rfl, xce117, xin 1230 (by decide +kernel), Or.inl (xsel ⟨"ZoneNetModel", "place", "(C)I"⟩ 49 (by decide +kernel)), Or.inl (xin 1228 (by decide +kernel))⟩
theorem xlk20 : ∀ q ∈ xlinks20, xlok q := List.forall_mem_cons.mpr ⟨xl20_0, List.forall_mem_cons.mpr ⟨xl20_1, List.forall_mem_cons.mpr ⟨xl20_2, List.forall_mem_cons.mpr ⟨xl20_3, List.forall_mem_cons.mpr ⟨xl20_4, List.forall_mem_cons.mpr ⟨xl20_5, List.forall_mem_cons.mpr ⟨xl20_6, List.forall_mem_cons.mpr ⟨xl20_7, List.forall_mem_cons.mpr ⟨xl20_8, List.forall_mem_cons.mpr ⟨xl20_9, List.forall_mem_cons.mpr ⟨xl20_10, List.forall_mem_cons.mpr ⟨xl20_11, List.forall_mem_cons.mpr ⟨xl20_12, List.forall_mem_cons.mpr ⟨xl20_13, List.forall_mem_cons.mpr ⟨xl20_14, List.forall_mem_cons.mpr ⟨xl20_15, List.forall_mem_cons.mpr ⟨xl20_16, List.forall_mem_cons.mpr ⟨xl20_17, List.forall_mem_cons.mpr ⟨xl20_18, List.forall_mem_cons.mpr ⟨xl20_19, fun w h => absurd h List.not_mem_nil⟩⟩⟩⟩⟩⟩⟩⟩⟩⟩⟩⟩⟩⟩⟩⟩⟩⟩⟩⟩
theorem xl21_0 : xlok (12, 230, 70, (70, 0, 118, 3, 12, [])) := ⟨118, 3, 12, ("ZoneNetModel", xT12, 49), rfl, rfl, xce118, xin 1234 (by decide +kernel), Or.inl (xsel ⟨"ZoneNetModel", "reach", "(III)I"⟩ 49 (by decide +kernel)), Or.inl (xin 1232 (by decide +kernel))⟩
theorem xl21_1 : xlok (12, 234, 70, (70, 0, 119, 3, 12, [])) := ⟨119, 3, 12, ("ZoneNetModel", xT12, 49), rfl, rfl, xce119, xin 1249 (by decide +kernel), Or.inl (xsel ⟨"ZoneNetModel", "fits", "(III)Z"⟩ 49 (by decide +kernel)), Or.inl (xin 1247 (by decide +kernel))⟩
theorem xl21_2 : xlok (12, 203, 51, (51, 0, 12, 22, 0, [])) := ⟨12, 22, 0, rfl, ⟨("ZoneNetModel", xT12, 49), "ZoneNetModel", rfl, by decide, Or.inl rfl, Or.inl (xin 982 (by decide +kernel))⟩, ⟨("ZoneNetModel", xT12, 49), .int, rfl, rfl, (fun z => nomatch z), by decide +kernel, rfl⟩⟩
theorem xl21_3 : xlok (12, 244, 70, (70, 0, 120, 2, 12, [])) := ⟨120, 2, 12, ("ZoneNetModel", xT12, 49), rfl, rfl, xce120, xin 1269 (by decide +kernel), Or.inl (xsel ⟨"ZoneNetModel", "isMask", "(II)Z"⟩ 49 (by decide +kernel)), Or.inl (xin 1267 (by decide +kernel))⟩
theorem xl21_4 : xlok (12, 247, 51, (51, 0, 12, 33, 0, [])) := ⟨12, 33, 0, rfl, ⟨("ZoneNetModel", xT12, 49), "ZoneNetModel", rfl, by decide, Or.inl rfl, Or.inl (xin 993 (by decide +kernel))⟩, ⟨("ZoneNetModel", xT12, 49), .int, rfl, rfl, (fun z => nomatch z), by decide +kernel, rfl⟩⟩
theorem xl21_5 : xlok (12, 45, 50, (50, 0, 12, 17, 0, [])) := ⟨12, 17, rfl, ⟨("ZoneNetModel", xT12, 49), "ZoneNetModel", rfl, by decide, Or.inl rfl, Or.inl (xin 977 (by decide +kernel))⟩⟩
theorem xl21_6 : xlok (12, 48, 50, (50, 0, 12, 18, 0, [])) := ⟨12, 18, rfl, ⟨("ZoneNetModel", xT12, 49), "ZoneNetModel", rfl, by decide, Or.inl rfl, Or.inl (xin 978 (by decide +kernel))⟩⟩
theorem xl21_7 : xlok (12, 51, 50, (50, 0, 12, 19, 0, [])) := ⟨12, 19, rfl, ⟨("ZoneNetModel", xT12, 49), "ZoneNetModel", rfl, by decide, Or.inl rfl, Or.inl (xin 979 (by decide +kernel))⟩⟩
theorem xl21_8 : xlok (12, 183, 70, (70, 0, 121, 4, 12, [])) := ⟨121, 4, 12, ("ZoneNetModel", xT12, 49), rfl, rfl, xce121, xin 1186 (by decide +kernel), Or.inl (xsel ⟨"ZoneNetModel", "take", "(IIII)V"⟩ 49 (by decide +kernel)), Or.inl (xin 1184 (by decide +kernel))⟩
theorem xl21_9 : xlok (12, 54, 50, (50, 0, 12, 20, 0, [])) := ⟨12, 20, rfl, ⟨("ZoneNetModel", xT12, 49), "ZoneNetModel", rfl, by decide, Or.inl rfl, Or.inl (xin 980 (by decide +kernel))⟩⟩
theorem xl21_10 : xlok (12, 72, 50, (50, 0, 12, 28, 0, [])) := ⟨12, 28, rfl, ⟨("ZoneNetModel", xT12, 49), "ZoneNetModel", rfl, by decide, Or.inl rfl, Or.inl (xin 988 (by decide +kernel))⟩⟩
theorem xl21_11 : xlok (12, 75, 50, (50, 0, 12, 29, 0, [])) := ⟨12, 29, rfl, ⟨("ZoneNetModel", xT12, 49), "ZoneNetModel", rfl, by decide, Or.inl rfl, Or.inl (xin 989 (by decide +kernel))⟩⟩
theorem xl21_12 : xlok (12, 78, 50, (50, 0, 12, 30, 0, [])) := ⟨12, 30, rfl, ⟨("ZoneNetModel", xT12, 49), "ZoneNetModel", rfl, by decide, Or.inl rfl, Or.inl (xin 990 (by decide +kernel))⟩⟩
theorem xl21_13 : xlok (12, 96, 50, (50, 0, 12, 38, 0, [])) := ⟨12, 38, rfl, ⟨("ZoneNetModel", xT12, 49), "ZoneNetModel", rfl, by decide, Or.inl rfl, Or.inl (xin 998 (by decide +kernel))⟩⟩
theorem xl21_14 : xlok (12, 259, 70, (70, 0, 122, 2, 12, [])) := ⟨122, 2, 12, ("ZoneNetModel", xT12, 49), rfl, rfl, xce122, xin 1206 (by decide +kernel), Or.inl (xsel ⟨"ZoneNetModel", "packet", "(II)Z"⟩ 49 (by decide +kernel)), Or.inl (xin 1204 (by decide +kernel))⟩
theorem xl21_15 : xlok (12, 262, 70, (70, 0, 123, 3, 12, [])) := ⟨123, 3, 12, ("ZoneNetModel", xT12, 49), rfl, rfl, xce123, xin 1210 (by decide +kernel), Or.inl (xsel ⟨"ZoneNetModel", "entry", "(III)I"⟩ 49 (by decide +kernel)), Or.inl (xin 1208 (by decide +kernel))⟩
theorem xl21_16 : xlok (12, 265, 70, (70, 0, 124, 2, 12, [])) := ⟨124, 2, 12, ("ZoneNetModel", xT12, 49), rfl, rfl, xce124, xin 1214 (by decide +kernel), Or.inl (xsel ⟨"ZoneNetModel", "carry", "(II)I"⟩ 49 (by decide +kernel)), Or.inl (xin 1212 (by decide +kernel))⟩
theorem xl21_17 : xlok (12, 176, 70, (70, 0, 125, 1, 12, [])) := ⟨125, 1, 12, ("ZoneNetModel", xT12, 49), rfl, rfl, xce125, xin 1162 (by decide +kernel), Or.inl (xsel ⟨"ZoneNetModel", "first", "(I)I"⟩ 49 (by decide +kernel)), Or.inl (xin 1160 (by decide +kernel))⟩
theorem xl21_18 : xlok (12, 136, 71, (71, 0, 126, 1, 0, [])) := ⟨126, 1, rfl, xce126, xin 1126 (by decide +kernel), Or.inl (xin 1125 (by decide +kernel))⟩
theorem xl21_19 : xlok (12, 238, 70, (70, 0, 127, 2, 12, [])) := ⟨127, 2, 12, ("ZoneNetModel", xT12, 49), rfl, rfl, xce127, xin 1238 (by decide +kernel), Or.inl (xsel ⟨"ZoneNetModel", "sameName", "(II)Z"⟩ 49 (by decide +kernel)), Or.inl (xin 1236 (by decide +kernel))⟩
theorem xlk21 : ∀ q ∈ xlinks21, xlok q := List.forall_mem_cons.mpr ⟨xl21_0, List.forall_mem_cons.mpr ⟨xl21_1, List.forall_mem_cons.mpr ⟨xl21_2, List.forall_mem_cons.mpr ⟨xl21_3, List.forall_mem_cons.mpr ⟨xl21_4, List.forall_mem_cons.mpr ⟨xl21_5, List.forall_mem_cons.mpr ⟨xl21_6, List.forall_mem_cons.mpr ⟨xl21_7, List.forall_mem_cons.mpr ⟨xl21_8, List.forall_mem_cons.mpr ⟨xl21_9, List.forall_mem_cons.mpr ⟨xl21_10, List.forall_mem_cons.mpr ⟨xl21_11, List.forall_mem_cons.mpr ⟨xl21_12, List.forall_mem_cons.mpr ⟨xl21_13, List.forall_mem_cons.mpr ⟨xl21_14, List.forall_mem_cons.mpr ⟨xl21_15, List.forall_mem_cons.mpr ⟨xl21_16, List.forall_mem_cons.mpr ⟨xl21_17, List.forall_mem_cons.mpr ⟨xl21_18, List.forall_mem_cons.mpr ⟨xl21_19, fun w h => absurd h List.not_mem_nil⟩⟩⟩⟩⟩⟩⟩⟩⟩⟩⟩⟩⟩⟩⟩⟩⟩⟩⟩⟩
theorem xl22_0 : xlok (12, 155, 70, (70, 0, 128, 4, 12, [])) := ⟨128, 4, 12, ("ZoneNetModel", xT12, 49), rfl, rfl, xce128, xin 1245 (by decide +kernel), Or.inl (xsel ⟨"ZoneNetModel", "stands", "(IIII)Z"⟩ 49 (by decide +kernel)), Or.inl (xin 1243 (by decide +kernel))⟩
theorem xl22_1 : xlok (12, 148, 70, (70, 0, 129, 2, 12, [])) := ⟨129, 2, 12, ("ZoneNetModel", xT12, 49), rfl, rfl, xce129, xin 1253 (by decide +kernel), Or.inl (xsel ⟨"ZoneNetModel", "tilde", "(II)I"⟩ 49 (by decide +kernel)), Or.inl (xin 1251 (by decide +kernel))⟩
theorem xl22_2 : xlok (12, 253, 50, (50, 0, 12, 47, 0, [])) := ⟨12, 47, rfl, ⟨("ZoneNetModel", xT12, 49), "ZoneNetModel", rfl, by decide, Or.inl rfl, Or.inl (xin 1007 (by decide +kernel))⟩⟩
theorem xl22_3 : xlok (12, 256, 51, (51, 0, 12, 48, 0, [])) := ⟨12, 48, 0, rfl, ⟨("ZoneNetModel", xT12, 49), "ZoneNetModel", rfl, by decide, Or.inl rfl, Or.inl (xin 1008 (by decide +kernel))⟩, ⟨("ZoneNetModel", xT12, 49), .int, rfl, rfl, (fun z => nomatch z), by decide +kernel, rfl⟩⟩
theorem xl22_4 : xlok (12, 151, 71, (71, 0, 130, 1, 0, [])) := ⟨130, 1, rfl, xce130, xin 1241 (by decide +kernel), Or.inl (xin 1240 (by decide +kernel))⟩
theorem xl22_5 : xlok (15, 3, 72, (73, 0, 0, 0, 0, [])) := Or.inl ⟨rfl, xin 41 (by decide +kernel), xin 31 (by decide +kernel), xin 32 (by decide +kernel)⟩
theorem xl22_6 : xlok (15, 18, 52, (52, 1, 0, 0, 0, [])) := ⟨1, "java/lang/String", "COMPACT_STRINGS", "Z", rfl, List.mem_cons_self, xin 42 (by decide +kernel)⟩
theorem xl22_7 : xlok (15, 15, 51, (51, 0, 1, 0, 4, [])) := ⟨1, 0, 4, rfl, ⟨("java/lang/StringBuilder", xT1, 4), "java/lang/AbstractStringBuilder", rfl, by decide, Or.inl rfl, Or.inl (xin 51 (by decide +kernel))⟩, ⟨("java/lang/StringBuilder", xT1, 4), .array .byte, rfl, rfl, (fun z => nomatch z), by decide +kernel, rfl⟩⟩
theorem xl22_8 : xlok (15, 22, 51, (51, 0, 1, 1, 2, [])) := ⟨1, 1, 2, rfl, ⟨("java/lang/StringBuilder", xT1, 4), "java/lang/AbstractStringBuilder", rfl, by decide, Or.inl rfl, Or.inl (xin 52 (by decide +kernel))⟩, ⟨("java/lang/StringBuilder", xT1, 4), .byte, rfl, rfl, (fun z => nomatch z), by decide +kernel, rfl⟩⟩
theorem xl22_9 : xlok (15, 79, 50, (50, 0, 1, 3, 0, [])) := ⟨1, 3, rfl, ⟨("java/lang/StringBuilder", xT1, 4), "java/lang/AbstractStringBuilder", rfl, by decide, Or.inl rfl, Or.inl (xin 55 (by decide +kernel))⟩⟩
theorem xl22_10 : xlok (15, 100, 70, (70, 0, 134, 1, 1, [])) := ⟨134, 1, 1, ("java/lang/StringBuilder", xT1, 4), rfl, rfl, xce134, xin 179 (by decide +kernel), Or.inr ⟨4, xin 34 (by decide +kernel), xin 1313 (by decide +kernel), xin 178 (by decide +kernel)⟩, Or.inl (xin 177 (by decide +kernel))⟩
theorem xl22_11 : xlok (15, 83, 70, (70, 0, 135, 0, 1, [])) := ⟨135, 0, 1, ("java/lang/StringBuilder", xT1, 4), rfl, rfl, xce135, xin 213 (by decide +kernel), Or.inl (xin 215 (by decide +kernel)), Or.inl (xin 212 (by decide +kernel))⟩
theorem xl22_12 : xlok (15, 191, 71, (71, 0, 162, 1, 0, [])) := ⟨162, 1, rfl, xce162, xin 218 (by decide +kernel), Or.inl (xin 217 (by decide +kernel))⟩
theorem xl22_13 : xlok (15, 15, 50, (50, 0, 1, 0, 0, [])) := ⟨1, 0, rfl, ⟨("java/lang/StringBuilder", xT1, 4), "java/lang/AbstractStringBuilder", rfl, by decide, Or.inl rfl, Or.inl (xin 51 (by decide +kernel))⟩⟩
theorem xl22_14 : xlok (15, 79, 51, (51, 0, 1, 3, 0, [])) := ⟨1, 3, 0, rfl, ⟨("java/lang/StringBuilder", xT1, 4), "java/lang/AbstractStringBuilder", rfl, by decide, Or.inl rfl, Or.inl (xin 55 (by decide +kernel))⟩, ⟨("java/lang/StringBuilder", xT1, 4), .int, rfl, rfl, (fun z => nomatch z), by decide +kernel, rfl⟩⟩
theorem xl22_15 : xlok (15, 22, 50, (50, 0, 1, 1, 0, [])) := ⟨1, 1, rfl, ⟨("java/lang/StringBuilder", xT1, 4), "java/lang/AbstractStringBuilder", rfl, by decide, Or.inl rfl, Or.inl (xin 52 (by decide +kernel))⟩⟩
theorem xl22_16 : xlok (15, 104, 70, (70, 0, 137, 1, 1, [])) := ⟨137, 1, 1, ("java/lang/StringBuilder", xT1, 4), rfl, rfl, xce137, xin 183 (by decide +kernel), Or.inr ⟨4, xin 34 (by decide +kernel), xin 1314 (by decide +kernel), xin 182 (by decide +kernel)⟩, Or.inl (xin 181 (by decide +kernel))⟩
theorem xl22_17 : xlok (15, 108, 71, (71, 0, 169, 2, 0, [])) := ⟨169, 2, rfl, xce169, xin 197 (by decide +kernel), Or.inl (xin 196 (by decide +kernel))⟩
theorem xl22_18 : xlok (15, 73, 51, (51, 0, 1, 2, 1, [])) := ⟨1, 2, 1, rfl, ⟨("java/lang/StringBuilder", xT1, 4), "java/lang/AbstractStringBuilder", rfl, by decide, Or.inl rfl, Or.inl (xin 53 (by decide +kernel))⟩, ⟨("java/lang/StringBuilder", xT1, 4), .boolean, rfl, rfl, (fun z => nomatch z), by decide +kernel, rfl⟩⟩
theorem xl22_19 : xlok (15, 114, 71, (71, 0, 173, 3, 0, [])) := ⟨173, 3, rfl, xce173, xin 186 (by decide +kernel), Or.inl (xin 185 (by decide +kernel))⟩
theorem xlk22 : ∀ q ∈ xlinks22, xlok q := List.forall_mem_cons.mpr ⟨xl22_0, List.forall_mem_cons.mpr ⟨xl22_1, List.forall_mem_cons.mpr ⟨xl22_2, List.forall_mem_cons.mpr ⟨xl22_3, List.forall_mem_cons.mpr ⟨xl22_4, List.forall_mem_cons.mpr ⟨xl22_5, List.forall_mem_cons.mpr ⟨xl22_6, List.forall_mem_cons.mpr ⟨xl22_7, List.forall_mem_cons.mpr ⟨xl22_8, List.forall_mem_cons.mpr ⟨xl22_9, List.forall_mem_cons.mpr ⟨xl22_10, List.forall_mem_cons.mpr ⟨xl22_11, List.forall_mem_cons.mpr ⟨xl22_12, List.forall_mem_cons.mpr ⟨xl22_13, List.forall_mem_cons.mpr ⟨xl22_14, List.forall_mem_cons.mpr ⟨xl22_15, List.forall_mem_cons.mpr ⟨xl22_16, List.forall_mem_cons.mpr ⟨xl22_17, List.forall_mem_cons.mpr ⟨xl22_18, List.forall_mem_cons.mpr ⟨xl22_19, fun w h => absurd h List.not_mem_nil⟩⟩⟩⟩⟩⟩⟩⟩⟩⟩⟩⟩⟩⟩⟩⟩⟩⟩⟩⟩
theorem xl23_0 : xlok (15, 39, 60, (0, 2147483647, 0, 0, 0, [])) := Or.inr ⟨2147483647, rfl, xin 195 (by decide +kernel)⟩
theorem xl23_1 : xlok (16, 265, 60, (0, 1431655765, 0, 0, 0, [])) := Or.inr ⟨1431655765, rfl, xin 466 (by decide +kernel)⟩
theorem xl23_2 : xlok (16, 266, 60, (0, 858993459, 0, 0, 0, [])) := Or.inr ⟨858993459, rfl, xin 467 (by decide +kernel)⟩
theorem xl23_3 : xlok (16, 267, 60, (0, 252645135, 0, 0, 0, [])) := Or.inr ⟨252645135, rfl, xin 468 (by decide +kernel)⟩
theorem xl23_4 : xlok (4, 9, 50, (50, 0, 4, 0, 0, [])) := ⟨4, 0, rfl, ⟨("java/lang/String", xT4, 2), "java/lang/String", rfl, by decide, Or.inl rfl, Or.inl (xin 316 (by decide +kernel))⟩⟩
theorem xl23_5 : xlok (4, 633, 70, (70, 0, 150, 2, 4, [])) := ⟨150, 2, 4, ("java/lang/String", xT4, 2), rfl, rfl, xce150, xin 386 (by decide +kernel), Or.inl (xin 387 (by decide +kernel)), Or.inl (xin 385 (by decide +kernel))⟩
theorem xl23_6 : xlok (4, 505, 70, (70, 0, 148, 0, 4, [])) := ⟨148, 0, 4, ("java/lang/String", xT4, 2), rfl, rfl, xce148, xin 358 (by decide +kernel), Or.inl (xin 359 (by decide +kernel)), Or.inl (xin 389 (by decide +kernel))⟩
theorem xl23_7 : xlok (4, 521, 71, (71, 0, 151, 3, 0, [])) := ⟨151, 3, rfl, xce151, xin 414 (by decide +kernel), Or.inl (xin 582 (by decide +kernel))⟩
theorem xl23_8 : xlok (4, 492, 70, (70, 0, 152, 0, 4, [])) := ⟨152, 0, 4, ("java/lang/String", xT4, 2), rfl, rfl, xce152, xin 371 (by decide +kernel), Or.inl (xin 372 (by decide +kernel)), Or.inl (xin 370 (by decide +kernel))⟩
theorem xl23_9 : xlok (4, 685, 71, (71, 0, 163, 3, 0, [])) := ⟨163, 3, rfl, xce163, xin 584 (by decide +kernel), Or.inl (xin 583 (by decide +kernel))⟩
theorem xl23_10 : xlok (4, 681, 70, (70, 0, 144, 2, 4, [])) := ⟨144, 2, 4, ("java/lang/String", xT4, 2), rfl, rfl, xce144, xin 579 (by decide +kernel), Or.inl (xin 580 (by decide +kernel)), Or.inl (xin 605 (by decide +kernel))⟩
theorem xl23_11 : xlok (4, 10, 61, (61, 0, 4, 0, 0, [])) := ⟨4, ("java/lang/String", xT4, 2), rfl, rfl, xin 646 (by decide +kernel)⟩
theorem xl23_12 : xlok (4, 10, 62, (62, 0, 4, 0, 0, [])) := ⟨4, ("java/lang/String", xT4, 2), rfl, rfl, xin 646 (by decide +kernel)⟩
theorem xl23_13 : xlok (4, 38, 52, (52, 1, 0, 0, 0, [])) := ⟨1, "java/lang/String", "COMPACT_STRINGS", "Z", rfl, List.mem_cons_self, xin 302 (by decide +kernel)⟩
theorem xl23_14 : xlok (4, 15, 50, (50, 0, 4, 1, 0, [])) := ⟨4, 1, rfl, ⟨("java/lang/String", xT4, 2), "java/lang/String", rfl, by decide, Or.inl rfl, Or.inl (xin 317 (by decide +kernel))⟩⟩
theorem xl23_15 : xlok (4, 541, 71, (71, 0, 164, 2, 0, [])) := ⟨164, 2, rfl, xce164, xin 648 (by decide +kernel), Or.inl (xin 647 (by decide +kernel))⟩
theorem xl23_16 : xlok (4, 489, 72, (72, 0, 153, 2, 0, [])) := Or.inr ⟨153, 2, rfl, xce153, rfl, rfl, xin 283 (by decide +kernel), Or.inl (xin 282 (by decide +kernel))⟩
theorem xl23_17 : xlok (4, 335, 70, (70, 0, 154, 0, 4, [])) := ⟨154, 0, 4, ("java/lang/String", xT4, 2), rfl, rfl, xce154, xin 362 (by decide +kernel), Or.inl (xin 363 (by decide +kernel)), Or.inl (xin 361 (by decide +kernel))⟩
theorem xl23_18 : xlok (4, 495, 71, (71, 0, 165, 2, 0, [])) := ⟨165, 2, rfl, xce165, xin 375 (by decide +kernel), Or.inl (xin 374 (by decide +kernel))⟩
theorem xl23_19 : xlok (4, 637, 71, (71, 0, 166, 4, 0, [])) := ⟨166, 4, rfl, xce166, xin 391 (by decide +kernel), Or.inl (xin 390 (by decide +kernel))⟩
theorem xlk23 : ∀ q ∈ xlinks23, xlok q := List.forall_mem_cons.mpr ⟨xl23_0, List.forall_mem_cons.mpr ⟨xl23_1, List.forall_mem_cons.mpr ⟨xl23_2, List.forall_mem_cons.mpr ⟨xl23_3, List.forall_mem_cons.mpr ⟨xl23_4, List.forall_mem_cons.mpr ⟨xl23_5, List.forall_mem_cons.mpr ⟨xl23_6, List.forall_mem_cons.mpr ⟨xl23_7, List.forall_mem_cons.mpr ⟨xl23_8, List.forall_mem_cons.mpr ⟨xl23_9, List.forall_mem_cons.mpr ⟨xl23_10, List.forall_mem_cons.mpr ⟨xl23_11, List.forall_mem_cons.mpr ⟨xl23_12, List.forall_mem_cons.mpr ⟨xl23_13, List.forall_mem_cons.mpr ⟨xl23_14, List.forall_mem_cons.mpr ⟨xl23_15, List.forall_mem_cons.mpr ⟨xl23_16, List.forall_mem_cons.mpr ⟨xl23_17, List.forall_mem_cons.mpr ⟨xl23_18, List.forall_mem_cons.mpr ⟨xl23_19, fun w h => absurd h List.not_mem_nil⟩⟩⟩⟩⟩⟩⟩⟩⟩⟩⟩⟩⟩⟩⟩⟩⟩⟩⟩⟩
theorem xl24_0 : xlok (4, 1053, 152, (63, 0, 0, 0, 0, [])) := ⟨rfl, xin 239 (by decide +kernel)⟩
theorem xl24_1 : xlok (4, 1062, 71, (71, 0, 174, 4, 0, [])) := ⟨174, 4, rfl, xce174, xin 417 (by decide +kernel), Or.inl (xin 416 (by decide +kernel))⟩
theorem xl24_2 : xlok (4, 1, 72, (73, 0, 0, 0, 0, [])) := Or.inl ⟨rfl, xin 285 (by decide +kernel), xin 31 (by decide +kernel), xin 32 (by decide +kernel)⟩
theorem xl24_3 : xlok (4, 552, 70, (70, 0, 138, 0, 1, [])) := ⟨138, 0, 1, ("java/lang/StringBuilder", xT1, 4), rfl, rfl, xce138, xin 287 (by decide +kernel), Or.inl (xin 289 (by decide +kernel)), Or.inl (xin 286 (by decide +kernel))⟩
theorem xl24_4 : xlok (4, 549, 170, (76, 0, 158, 0, 1, [])) := ⟨158, 0, 1, ("java/lang/StringBuilder", xT1, 4), ⟨"java/lang/AbstractStringBuilder", "length", "()I"⟩, _, _, _, rfl, rfl, xce158, xin 291 (by decide +kernel), xin 1311 (by decide +kernel), xin 168 (by decide +kernel), xin (w := Cond.code ⟨"java/lang/AbstractStringBuilder", "length", "()I"⟩ prog_14_method_6_code 1 (Option.some Jvm.ClassFile.FieldType.int)) 169 (by decide +kernel), xin 1316 (by decide +kernel), xin 164 (by decide +kernel), by decide +kernel, by decide +kernel⟩
theorem xl24_5 : xlok (4, 1047, 70, (70, 0, 135, 0, 1, [])) := ⟨135, 0, 1, ("java/lang/StringBuilder", xT1, 4), rfl, rfl, xce135, xin 213 (by decide +kernel), Or.inl (xin 215 (by decide +kernel)), Or.inl (xin 292 (by decide +kernel))⟩
theorem xl24_6 : xlok (4, 15, 151, (51, 0, 4, 1, 2, [])) := ⟨4, 1, 2, rfl, ⟨("java/lang/String", xT4, 2), "java/lang/String", rfl, by decide, Or.inl rfl, Or.inl (xin 317 (by decide +kernel))⟩, ⟨("java/lang/String", xT4, 2), .byte, rfl, rfl, (fun _ => rfl), by decide +kernel, rfl⟩⟩
theorem xl24_7 : xlok (4, 54, 71, (71, 0, 170, 3, 0, [])) := ⟨170, 3, rfl, xce170, xin 294 (by decide +kernel), Or.inl (xin 293 (by decide +kernel))⟩
theorem xl24_8 : xlok (4, 9, 151, (51, 0, 4, 0, 4, [])) := ⟨4, 0, 4, rfl, ⟨("java/lang/String", xT4, 2), "java/lang/String", rfl, by decide, Or.inl rfl, Or.inl (xin 316 (by decide +kernel))⟩, ⟨("java/lang/String", xT4, 2), .array .byte, rfl, rfl, (fun _ => rfl), by decide +kernel, rfl⟩⟩
theorem xl24_9 : xlok (4, 1048, 50, (50, 0, 1, 2, 0, [])) := ⟨1, 2, rfl, ⟨("java/lang/StringBuilder", xT1, 4), "java/lang/AbstractStringBuilder", rfl, by decide, Or.inl rfl, Or.inl (xin 54 (by decide +kernel))⟩⟩
theorem xl24_10 : xlok (4, 1059, 71, (71, 0, 175, 3, 0, [])) := ⟨175, 3, rfl, xce175, xin 263 (by decide +kernel), Or.inl (xin 262 (by decide +kernel))⟩
theorem xl24_11 : xlok (1, 1, 72, (72, 0, 131, 1, 0, [])) := Or.inr ⟨131, 1, rfl, xce131, rfl, rfl, xin 39 (by decide +kernel), Or.inl (xin 38 (by decide +kernel))⟩
theorem xl24_12 : xlok (1, 343, 172, (75, 0, 132, 0, 1, [])) := ⟨132, 0, 1, ("java/lang/StringBuilder", xT1, 4), rfl, rfl, xce132, by decide +kernel, xin 167 (by decide +kernel), xin 1311 (by decide +kernel), xin 64 (by decide +kernel), xin 168 (by decide +kernel)⟩
theorem xl24_13 : xlok (1, 50, 172, (75, 0, 133, 1, 1, [])) := ⟨133, 1, 1, ("java/lang/StringBuilder", xT1, 4), rfl, rfl, xce133, by decide +kernel, xin 174 (by decide +kernel), xin 1312 (by decide +kernel), xin 64 (by decide +kernel), xin 175 (by decide +kernel)⟩
theorem xl24_14 : xlok (1, 18, 53, (53, 0, 4, 4, 0, [])) := ⟨4, 4, ("java/lang/String", xT4, 2), rfl, rfl, xin 277 (by decide +kernel), xin 278 (by decide +kernel), xin 4 (by decide +kernel)⟩
theorem xl24_15 : xlok (1, 137, 72, (72, 0, 147, 1, 0, [])) := Or.inr ⟨147, 1, rfl, xce147, rfl, rfl, xin 280 (by decide +kernel), Or.inl (xin 279 (by decide +kernel))⟩
theorem xl24_16 : xlok (1, 333, 172, (75, 0, 136, 1, 1, [])) := ⟨136, 1, 1, ("java/lang/StringBuilder", xT1, 4), rfl, rfl, xce136, by decide +kernel, xin 331 (by decide +kernel), xin 1317 (by decide +kernel), xin 64 (by decide +kernel), xin 332 (by decide +kernel)⟩
theorem xl24_17 : xlok (18, 151, 60, (60, 0, 1, 0, 0, [])) := Or.inl ⟨1, "", rfl, by decide +kernel⟩
theorem xl24_18 : xlok (18, 1, 53, (53, 0, 4, 4, 0, [])) := ⟨4, 4, ("java/lang/String", xT4, 2), rfl, rfl, xin 587 (by decide +kernel), xin 278 (by decide +kernel), xin 4 (by decide +kernel)⟩
theorem xl24_19 : xlok (18, 232, 71, (71, 0, 170, 3, 0, [])) := ⟨170, 3, rfl, xce170, xin 294 (by decide +kernel), Or.inl (xin 588 (by decide +kernel))⟩
theorem xlk24 : ∀ q ∈ xlinks24, xlok q := List.forall_mem_cons.mpr ⟨xl24_0, List.forall_mem_cons.mpr ⟨xl24_1, List.forall_mem_cons.mpr ⟨xl24_2, List.forall_mem_cons.mpr ⟨xl24_3, List.forall_mem_cons.mpr ⟨xl24_4, List.forall_mem_cons.mpr ⟨xl24_5, List.forall_mem_cons.mpr ⟨xl24_6, List.forall_mem_cons.mpr ⟨xl24_7, List.forall_mem_cons.mpr ⟨xl24_8, List.forall_mem_cons.mpr ⟨xl24_9, List.forall_mem_cons.mpr ⟨xl24_10, List.forall_mem_cons.mpr ⟨xl24_11, List.forall_mem_cons.mpr ⟨xl24_12, List.forall_mem_cons.mpr ⟨xl24_13, List.forall_mem_cons.mpr ⟨xl24_14, List.forall_mem_cons.mpr ⟨xl24_15, List.forall_mem_cons.mpr ⟨xl24_16, List.forall_mem_cons.mpr ⟨xl24_17, List.forall_mem_cons.mpr ⟨xl24_18, List.forall_mem_cons.mpr ⟨xl24_19, fun w h => absurd h List.not_mem_nil⟩⟩⟩⟩⟩⟩⟩⟩⟩⟩⟩⟩⟩⟩⟩⟩⟩⟩⟩⟩
theorem xl25_0 : xlok (18, 112, 72, (72, 0, 155, 2, 0, [])) := Or.inr ⟨155, 2, rfl, xce155, rfl, rfl, xin 590 (by decide +kernel), Or.inl (xin 589 (by decide +kernel))⟩
theorem xl25_1 : xlok (18, 9, 71, (71, 0, 156, 2, 0, [])) := ⟨156, 2, rfl, xce156, xin 260 (by decide +kernel), Or.inl (xin 377 (by decide +kernel))⟩
theorem xl25_2 : xlok (18, 88, 71, (71, 0, 167, 1, 0, [])) := ⟨167, 1, rfl, xce167, xin 394 (by decide +kernel), Or.inl (xin 393 (by decide +kernel))⟩
theorem xl25_3 : xlok (18, 92, 171, (77, 0, 0, 0, 0, [])) := Or.inl ⟨rfl, xin 396 (by decide +kernel), xin 189 (by decide +kernel), xin 10 (by decide +kernel), xin 190 (by decide +kernel)⟩
theorem xl25_4 : xlok (18, 38, 171, (78, 0, 0, 0, 0, [])) := Or.inr (Or.inl ⟨rfl, xin 397 (by decide +kernel), xin 207 (by decide +kernel), xin 10 (by decide +kernel), xin 208 (by decide +kernel)⟩)
theorem xl25_5 : xlok (18, 95, 71, (71, 0, 168, 4, 0, [])) := ⟨168, 4, rfl, xce168, xin 399 (by decide +kernel), Or.inl (xin 398 (by decide +kernel))⟩
theorem xl25_6 : xlok (19, 310, 180, (80, 0, 0, 0, 0, [])) := ⟨rfl, xin 199 (by decide +kernel), xin 200 (by decide +kernel), xin 201 (by decide +kernel), xin 202 (by decide +kernel), xin 203 (by decide +kernel), xin 204 (by decide +kernel)⟩
theorem xl25_7 : xlok (19, 311, 162, (81, 0, 0, 0, 0, [])) := ⟨rfl, xin 205 (by decide +kernel)⟩
theorem xl25_8 : xlok (19, 304, 171, (78, 0, 0, 0, 0, [])) := Or.inr (Or.inl ⟨rfl, xin 206 (by decide +kernel), xin 207 (by decide +kernel), xin 10 (by decide +kernel), xin 208 (by decide +kernel)⟩)
theorem xl25_9 : xlok (19, 150, 171, (79, 0, 0, 0, 0, [])) := Or.inr (Or.inr ⟨rfl, xin 209 (by decide +kernel), xin 211 (by decide +kernel), xin 210 (by decide +kernel), xin 12 (by decide +kernel)⟩)
theorem xl25_10 : xlok (19, 339, 71, (71, 0, 171, 3, 0, [])) := ⟨171, 3, rfl, xce171, xin 297 (by decide +kernel), Or.inl (xin 296 (by decide +kernel))⟩
theorem xl25_11 : xlok (19, 343, 71, (71, 0, 172, 2, 0, [])) := ⟨172, 2, rfl, xce172, xin 300 (by decide +kernel), Or.inl (xin 299 (by decide +kernel))⟩
theorem xl25_12 : xlok (20, 194, 171, (77, 0, 0, 0, 0, [])) := Or.inl ⟨rfl, xin 188 (by decide +kernel), xin 189 (by decide +kernel), xin 10 (by decide +kernel), xin 190 (by decide +kernel)⟩
theorem xl25_13 : xlok (20, 200, 60, (0, 2147483639, 0, 0, 0, [])) := Or.inr ⟨2147483639, rfl, xin 191 (by decide +kernel)⟩
theorem xlk25 : ∀ q ∈ xlinks25, xlok q := List.forall_mem_cons.mpr ⟨xl25_0, List.forall_mem_cons.mpr ⟨xl25_1, List.forall_mem_cons.mpr ⟨xl25_2, List.forall_mem_cons.mpr ⟨xl25_3, List.forall_mem_cons.mpr ⟨xl25_4, List.forall_mem_cons.mpr ⟨xl25_5, List.forall_mem_cons.mpr ⟨xl25_6, List.forall_mem_cons.mpr ⟨xl25_7, List.forall_mem_cons.mpr ⟨xl25_8, List.forall_mem_cons.mpr ⟨xl25_9, List.forall_mem_cons.mpr ⟨xl25_10, List.forall_mem_cons.mpr ⟨xl25_11, List.forall_mem_cons.mpr ⟨xl25_12, List.forall_mem_cons.mpr ⟨xl25_13, fun w h => absurd h List.not_mem_nil⟩⟩⟩⟩⟩⟩⟩⟩⟩⟩⟩⟩⟩⟩
theorem xlinks_ok : ∀ q ∈ xlinks, xlok q := by
  show ∀ q ∈ xlinks0 ++ (xlinks1 ++ (xlinks2 ++ (xlinks3 ++ (xlinks4 ++ (xlinks5 ++ (xlinks6 ++ (xlinks7 ++ (xlinks8 ++ (xlinks9 ++ (xlinks10 ++ (xlinks11 ++ (xlinks12 ++ (xlinks13 ++ (xlinks14 ++ (xlinks15 ++ (xlinks16 ++ (xlinks17 ++ (xlinks18 ++ (xlinks19 ++ (xlinks20 ++ (xlinks21 ++ (xlinks22 ++ (xlinks23 ++ (xlinks24 ++ (xlinks25))))))))))))))))))))))))), xlok q
  exact List.forall_mem_append.mpr ⟨xlk0, List.forall_mem_append.mpr ⟨xlk1, List.forall_mem_append.mpr ⟨xlk2, List.forall_mem_append.mpr ⟨xlk3, List.forall_mem_append.mpr ⟨xlk4, List.forall_mem_append.mpr ⟨xlk5, List.forall_mem_append.mpr ⟨xlk6, List.forall_mem_append.mpr ⟨xlk7, List.forall_mem_append.mpr ⟨xlk8, List.forall_mem_append.mpr ⟨xlk9, List.forall_mem_append.mpr ⟨xlk10, List.forall_mem_append.mpr ⟨xlk11, List.forall_mem_append.mpr ⟨xlk12, List.forall_mem_append.mpr ⟨xlk13, List.forall_mem_append.mpr ⟨xlk14, List.forall_mem_append.mpr ⟨xlk15, List.forall_mem_append.mpr ⟨xlk16, List.forall_mem_append.mpr ⟨xlk17, List.forall_mem_append.mpr ⟨xlk18, List.forall_mem_append.mpr ⟨xlk19, List.forall_mem_append.mpr ⟨xlk20, List.forall_mem_append.mpr ⟨xlk21, List.forall_mem_append.mpr ⟨xlk22, List.forall_mem_append.mpr ⟨xlk23, List.forall_mem_append.mpr ⟨xlk24, xlk25⟩⟩⟩⟩⟩⟩⟩⟩⟩⟩⟩⟩⟩⟩⟩⟩⟩⟩⟩⟩⟩⟩⟩⟩⟩
def xlk (cn idx op : Nat) : Option xI := (xlinks.find? (fun q => q.1 == cn && q.2.1 == idx && q.2.2.1 == op)).map (fun q => q.2.2.2)
theorem xm_ownB : ∀ q ∈ xmL, q.1.cls = xown q.2.2.2.2.2.2.2.2 := by decide +kernel
theorem xm_own (i : Nat) : (xy i).cls = xown (xcn i) := by
  unfold xy xcn xm
  rw [List.getD_eq_getElem?_getD]
  cases h : xmL[i]? with
  | none => decide +kernel
  | some q => exact xm_ownB q (List.mem_of_getElem? h)
end
section
/-- only a call that fits into the caller's room -/
def xlmOk (i : Nat) (r : xI) : Bool := if r.1 = 73 then decide (1 ≤ xfr i) && decide (20 ≤ xlo i) else decide (xfr r.2.2.1 + 1 ≤ xfr i) && decide (8 + (xmax r.2.2.1 + 11) + xlo r.2.2.1 ≤ xlo i) && decide (r.2.2.2.1 + (if r.1 = 71 then 0 else 1) ≤ xmax r.2.2.1)
def xlm (i : Nat) (o : Option xI) : Option xI := o.bind fun r => if xlmOk i r = true then some r else none
/-- what needs a frame and some words alone -/
def xls (i : Nat) (o : Option xI) : Option xI := if 1 ≤ xfr i ∧ 40 ≤ xlo i then o else none
theorem xlmOk_spec {i : Nat} {r : xI} (h : xlmOk i r = true) (h73 : r.1 ≠ 73) : xfr r.2.2.1 + 1 ≤ xfr i ∧ 8 + (xmax r.2.2.1 + 11) + xlo r.2.2.1 ≤ xlo i ∧ r.2.2.2.1 + (if r.1 = 71 then 0 else 1) ≤ xmax r.2.2.1 := by
  unfold xlmOk at h
  rw [if_neg h73] at h
  simp only [Bool.and_eq_true, decide_eq_true_eq] at h
  exact ⟨h.1.1, h.1.2, h.2⟩
theorem xlmOk_obj {i : Nat} (h : xlmOk i (73, 0, 0, 0, 0, []) = true) : 1 ≤ xfr i ∧ 20 ≤ xlo i := by
  unfold xlmOk at h
  simpa using h
def xor2 (a b : Option xI) : Option xI := match a with
  | some r => some r
  | none => b
theorem xor2_spec {a b : Option xI} {r : xI} (h : xor2 a b = some r) : a = some r ∨ b = some r := by
  unfold xor2 at h
  split at h
  · exact Or.inl h
  · exact Or.inr h
/-- the row of an instruction -/
def xenc (i pc len : Nat) : Jvm.ClassFile.Instr → Option xI
  | .iconst n => xln len 1 (0, Int32.ofInt n, 0, 0, 0, [])
  | .bipush n => xln len 2 (0, (Int8.ofInt n).toInt32, 0, 0, 0, [])
  | .sipush n => xln len 3 (0, (Int16.ofInt n).toInt32, 0, 0, 0, [])
  | .iload_n k => xln len 1 (1, 0, k.val, 0, 0, [])
  | .iload j => xln len 2 (1, 0, j, 0, 0, [])
  | .aload_n k => xln len 1 (2, 0, k.val, 0, 0, [])
  | .aload j => xln len 2 (2, 0, j, 0, 0, [])
  | .istore_n k => xln len 1 (3, 0, k.val, 0, 0, [])
  | .istore j => xln len 2 (3, 0, j, 0, 0, [])
  | .astore_n k => xln len 1 (4, 0, k.val, 0, 0, [])
  | .astore j => xln len 2 (4, 0, j, 0, 0, [])
  | .iinc j n => xln len 3 (5, Int32.ofInt n, j, 0, 0, [])
  | .aconst_null => xln len 1 (6, 0, 0, 0, 0, [])
  | .iadd => xln len 1 (10, 0, 0, 0, 0, [])
  | .isub => xln len 1 (11, 0, 0, 0, 0, [])
  | .imul => xln len 1 (12, 0, 0, 0, 0, [])
  | .iand => xln len 1 (13, 0, 0, 0, 0, [])
  | .ior => xln len 1 (14, 0, 0, 0, 0, [])
  | .ixor => xln len 1 (15, 0, 0, 0, 0, [])
  | .ishl => xln len 1 (16, 0, 0, 0, 0, [])
  | .ishr => xln len 1 (17, 0, 0, 0, 0, [])
  | .iushr => xln len 1 (18, 0, 0, 0, 0, [])
  | .idiv => xln len 1 (19, 0, 0, 0, 0, [])
  | .irem => xln len 1 (20, 0, 0, 0, 0, [])
  | .ineg => xln len 1 (21, 0, 0, 0, 0, [])
  | .i2b => xln len 1 (22, 0, 0, 0, 0, [])
  | .i2s => xln len 1 (23, 0, 0, 0, 0, [])
  | .i2c => xln len 1 (24, 0, 0, 0, 0, [])
  | .dup => xln len 1 (25, 0, 0, 0, 0, [])
  | .pop => xln len 1 (26, 0, 0, 0, 0, [])
  | .dup_x1 => xln len 1 (27, 0, 0, 0, 0, [])
  | .dup_x2 => xln len 1 (28, 0, 0, 0, 0, [])
  | .dup2 => xln len 1 (29, 0, 0, 0, 0, [])
  | .ifCond .eq off => xlt len 3 pc off (30, 0, xt pc off, 0, 0, [])
  | .ifCond .ne off => xlt len 3 pc off (31, 0, xt pc off, 0, 0, [])
  | .ifCond .lt off => xlt len 3 pc off (32, 0, xt pc off, 0, 0, [])
  | .ifCond .ge off => xlt len 3 pc off (33, 0, xt pc off, 0, 0, [])
  | .ifCond .gt off => xlt len 3 pc off (34, 0, xt pc off, 0, 0, [])
  | .ifCond .le off => xlt len 3 pc off (35, 0, xt pc off, 0, 0, [])
  | .if_icmp .eq off => xlt len 3 pc off (36, 0, xt pc off, 0, 0, [])
  | .if_icmp .ne off => xlt len 3 pc off (37, 0, xt pc off, 0, 0, [])
  | .if_icmp .lt off => xlt len 3 pc off (38, 0, xt pc off, 0, 0, [])
  | .if_icmp .ge off => xlt len 3 pc off (39, 0, xt pc off, 0, 0, [])
  | .if_icmp .gt off => xlt len 3 pc off (40, 0, xt pc off, 0, 0, [])
  | .if_icmp .le off => xlt len 3 pc off (41, 0, xt pc off, 0, 0, [])
  | .ifnull off => xlt len 3 pc off (42, 0, xt pc off, 0, 0, [])
  | .ifnonnull off => xlt len 3 pc off (43, 0, xt pc off, 0, 0, [])
  | .if_acmp .eq off => xlt len 3 pc off (44, 0, xt pc off, 0, 0, [])
  | .if_acmp .ne off => xlt len 3 pc off (45, 0, xt pc off, 0, 0, [])
  | .goto off => xlt len 3 pc off (46, 0, xt pc off, 0, 0, [])
  | .tableswitch d lo hi offs => if xtsOk pc d lo hi offs then some (47, 0, xt pc d, 0, 0, xts pc lo offs.toList) else none
  | .newarray .int => xln len 2 (54, 0, 0, 0, 0, [])
  | .newarray .byte => xln len 2 (54, 0, 1, 0, 0, [])
  | .newarray .boolean => xln len 2 (54, 0, 2, 0, 0, [])
  | .newarray .char => xln len 2 (54, 0, 3, 0, 0, [])
  | .arraylength => xln len 1 (56, 0, 0, 0, 0, [])
  | .iaload => xln len 1 (57, 0, 0, 0, 0, [])
  | .baload => xln len 1 (57, 0, 1, 2, 0, [])
  | .caload => xln len 1 (57, 0, 3, 3, 0, [])
  | .aaload => xln len 1 (57, 0, 4, 1000, 0, [])
  | .iastore => xln len 1 (58, 0, 0, 0, 0, [])
  | .bastore => xln len 1 (58, 0, 1, 2, 0, [])
  | .castore => xln len 1 (58, 0, 3, 3, 0, [])
  | .aastore => xln len 1 (59, 0, 0, 0, 0, [])
  | .ireturn => (xtc (xret i)).bind fun t => xln len 1 (90, 0, t, 0, 0, [])
  | .areturn => if xretA (xret i) then xln len 1 (91, 0, 0, 0, 0, []) else none
  | .return_ => if xret i = none then xln len 1 (92, 0, 0, 0, 0, []) else none
  | .getfield idx => if len = 3 then xlk (xcn i) idx 50 else none
  | .putfield idx => if len = 3 then xor2 (xlk (xcn i) idx 51) (if (xy i).name = "<init>" then xlk (xcn i) idx 151 else none) else none
  | .getstatic idx => if len = 3 then xor2 (xlk (xcn i) idx 52) (xlk (xcn i) idx 152) else none
  | .new idx => if len = 3 then xlk (xcn i) idx 53 else none
  | .anewarray idx => if len = 3 then xlk (xcn i) idx 55 else none
  | .ldc idx => if len = 2 then xlk (xcn i) idx 60 else none
  | .instanceof idx => if len = 3 then xlk (xcn i) idx 61 else none
  | .checkcast idx => if len = 3 then xor2 (xlk (xcn i) idx 62) (xlk (xcn i) idx 162) else none
  | .invokevirtual idx => if len = 3 then xor2 (xlm i (xlk (xcn i) idx 70)) (xor2 (xlm i (xlk (xcn i) idx 170)) (xls i (xlk (xcn i) idx 180))) else none
  | .invokestatic idx => if len = 3 then xor2 (xlm i (xlk (xcn i) idx 71)) (xls i (xlk (xcn i) idx 171)) else none
  | .invokespecial idx => if len = 3 then xor2 (xlm i (xlk (xcn i) idx 72)) (xlm i (xlk (xcn i) idx 172)) else none
  | _ => none
/-! words of the tables, moved from the law's start to any later state -/
def xmov : Cond → Bool
  | .methodLinkNest _ _ _ _ => true
  | .fieldLinkNest _ _ _ _ _ _ => true
  | .arrayOver (.object _) => true
  | .castable _ _ => true
  | w => goodWord w
theorem xmoved {w : Cond} {s U : State} (hm : xmov w = true) (hW : s.WarmedH U.vm) (h : w.before #[] s = true) (a : Array Value) : w.before a U = true := by
  unfold xmov at hm
  split at hm
  · exact va_Nw.use rfl (va_Nw.warmM hW (va_Nw.of rfl h))
  · exact va_Nw.use rfl (va_Nw.warmF hW (va_Nw.of rfl h))
  · exact va_AO.use (va_AO.moved hW.alike (va_AO.of h))
  · exact va_Nw.use rfl (va_Nw.warmC hW (va_Nw.of rfl h))
  · exact word_at hW (good_of_word hm) h
theorem xword {E : xE} (g : xglob E) {w : Cond} (hw : w ∈ lw_tbl) (hm : xmov w = true) {s : State} (hW : E.2.1.WarmedH s.vm) (a : Array Value) : w.before a s = true := xmoved hm hW (g.1 w hw) a
theorem xargs : ∀ (As : List Value) (n k : Nat) (v : Value), (∀ w ∈ As, w.category = 1) → As[k]? = some v → (n + k, v) ∈ lv_args n As
  | [], n, k, v, _, h => by simp at h
  | w :: r, n, 0, v, hc, h => by
    simp at h
    subst h
    simp [lv_args]
  | w :: r, n, k + 1, v, hc, h => by
    have h1 := xargs r (n + 1) k v (fun q hq => hc q (List.mem_cons_of_mem _ hq)) (by simpa using h)
    have h2 := hc w List.mem_cons_self
    simp only [lv_args, h2]
    rw [show n + (k + 1) = n + 1 + k by omega]
    exact List.mem_cons_of_mem _ h1
theorem xsl (As : List Value) (hc : ∀ w ∈ As, w.category = 1) : (lg_sl As).length = As.length := by
  induction As with
  | nil => rfl
  | cons w r ih =>
    have h2 := hc w List.mem_cons_self
    have h3 := ih (fun q hq => hc q (List.mem_cons_of_mem _ hq))
    simp only [lg_sl] at h3 ⊢
    simp [h2, h3]
theorem xmet {E : xE} {j : Nat} {As : List Value} {M : xM} {nx : Nat} {Q : Option Value → xM → Nat → Prop} (g : xglob E) (h : XC E j As M nx Q) (hpl : plainName (xy j).cls = true) (hlen : As.length ≤ xmax j) (hcat : ∀ v ∈ As, v.category = 1) :
    Met E.1 (xy j) [.code (xy j) (xcode j) (xmax j) (xret j)] (xrm j) (fun a s => a = As.toArray ∧ E.2.1.WarmedH s.vm ∧ xrep E M s.heap ∧ s.heap.size = nx)
      (fun _ _ o t => ∃ (v : Option Value) (M' : xM), o = .returned v ∧ xrep E M' t.heap ∧ Q v M' t.heap.size) (xmc j) (xms j) (fun q => E.2.1.heap.size ≤ q) := by
  refine Met.ofW (cc := xcode j) (maxL := xmax j) (ret := xret j) hpl rfl ?_
  intro p e s m args below meth c s₁ B hml hv
  obtain ⟨rfl, hW, hr, hz⟩ := hv
  have hl := lv_entry As (n := xmax j) (by rw [xsl As hcat]; exact hlen)
  rw [lg_entry_eq]
  have hLn : (xentry As (xmax j)).length = xmax j := by
    unfold xentry
    rw [List.length_append, List.length_map, List.length_replicate]
    omega
  refine h g p e s m As.toArray below meth c s.heap [] 0 0 _ ⟨B.exec, B.bytes, hml, B.returns, B.notSynchronized, findClass_of_methodNamed B.named, (name_of_methodNamed B.named B.method).1, hW⟩ hr hz ⟨⟨by rw [hLn]; exact hl.1, hl.2.1, fun q hq => ?_⟩, fun k w hw => ?_⟩ hLn (by omega) (by omega) (fun q h => by cases h)
  · obtain ⟨k, w⟩ := q
    rw [xlv_mem] at hq
    unfold xentry at hq
    by_cases hk : k < As.length
    · rw [List.getElem?_append_left (by rw [List.length_map]; exact hk), List.getElem?_map] at hq
      have hq2 : As[k]? = some w := by
        cases hA : As[k]? with
        | none => rw [hA] at hq; cases hq
        | some u => rw [hA] at hq; cases hq; rfl
      have := hl.2.2 (0 + k, w) (xargs As 0 k w hcat hq2)
      simpa using this
    · rw [List.getElem?_append_right (by rw [List.length_map]; omega), List.getElem?_replicate] at hq
      split at hq
      · cases hq
      · cases hq
  · unfold xentry at hw
    by_cases hk : k < As.length
    · rw [List.getElem?_append_left (by rw [List.length_map]; exact hk), List.getElem?_map] at hw
      cases hA : As[k]? with
      | none => rw [hA] at hw; cases hw
      | some u =>
        rw [hA] at hw
        cases hw
        exact hcat w (List.mem_of_getElem? hA)
    · rw [List.getElem?_append_right (by rw [List.length_map]; omega), List.getElem?_replicate] at hw
      split at hw
      · cases hw
      · cases hw
theorem xarrc {t : Nat} (h : t < 4) : Cond.arrayClass (xaty t) ∈ lw_tbl := by
  rcases (show t = 0 ∨ t = 1 ∨ t = 2 ∨ t = 3 by omega) with rfl | rfl | rfl | rfl
  · exact xin 158 (by decide +kernel)
  · exact xin 65 (by decide +kernel)
  · exact xin 454 (by decide +kernel)
  · exact xin 1108 (by decide +kernel)
theorem xaty_small {t : Nat} (h : t < 4) (C : String) : xaty t ≠ .object C := by
  rcases (show t = 0 ∨ t = 1 ∨ t = 2 ∨ t = 3 by omega) with rfl | rfl | rfl | rfl <;> exact fun z => nomatch z
theorem xaty_def {t : Nat} (h : t < 4) : defaultValue (xaty t) = .int 0 := by
  rcases (show t = 0 ∨ t = 1 ∨ t = 2 ∨ t = 3 by omega) with rfl | rfl | rfl | rfl <;> rfl
theorem xbytes {t n : Nat} (h : t < 4) (hn : n ≤ 1000000) : n * componentBytes (xaty t) ≤ 536870912 := by
  have : componentBytes (xaty t) ≤ 4 := by
    rcases (show t = 0 ∨ t = 1 ∨ t = 2 ∨ t = 3 by omega) with rfl | rfl | rfl | rfl <;> decide
  have := Nat.mul_le_mul hn this
  omega
def xtab (i pc : Nat) : Option (xI × Nat) := match decode (xcode i) pc with
  | .ok q => (xenc i pc q.2 q.1).map (fun r => (r, q.2))
  | .error _ => none
theorem xtab_spec {i pc : Nat} {ro : xI × Nat} (h : xtab i pc = some ro) : ∃ ins, decode (xcode i) pc = .ok (ins, ro.2) ∧ xenc i pc ro.2 ins = some ro.1 := by
  unfold xtab at h
  split at h
  · next q hd =>
    obtain ⟨ins, len⟩ := q
    cases hr : xenc i pc len ins with
    | none => simp [hr] at h
    | some r =>
      simp [hr] at h
      subst h
      exact ⟨ins, hd, hr⟩
  · cases h
/-- what a return instruction gives back -/
def xretI (i : Nat) (ins : Jvm.ClassFile.Instr) (v : Option Value) : Prop :=
  (ins = .ireturn ∧ ∃ x t, v = some (.int x) ∧ xtc (xret i) = some t ∧ xfit t (.int x)) ∨ (ins = .areturn ∧ xretA (xret i) = true ∧ (v = some .null ∨ ∃ a, v = some (.ref a))) ∨ (ins = .return_ ∧ xret i = none ∧ v = none)
theorem xite_spec {c : Prop} [Decidable c] {o : Option xI} {r : xI} (h : (if c then o else none) = some r) : c ∧ o = some r := by
  by_cases z : c
  · rw [if_pos z] at h
    exact ⟨z, h⟩
  · rw [if_neg z] at h
    cases h
theorem xR1_rf {st : List Value} {P : Option Nat → List Value → Prop} (h : xR1 st P) : ∃ o r, st = va_rf o :: r ∧ P o r := by
  rcases xR1_spec h with ⟨a, r, rfl, h⟩ | ⟨r, rfl, h⟩
  · exact ⟨some a, r, rfl, h⟩
  · exact ⟨none, r, rfl, h⟩
section XW
variable {p : Program} {l : Launch} {e : Env} {R : Room} {s : State} {m : MethodId} {args : Array Value} {below : List Frame} {meth : Method} {c : Code} {H : Heap} {locs : List Loc} {cells slots : Nat} {Q : State → Prop}
variable {cc : ByteArray} {pc : Nat} {ls ls' : Array Slot} {rest : List Value}
theorem x_istore_n (hexec : p.tables.exec = Jvm.exec) (hb : c.code = cc) {k : Fin 4} {x : Int32} (hdg : decode cc pc = .ok (.istore_n k, 1)) (e' : storeLocals ls k.val (.int x) = some ls')
    (kk : W p l e R s m args below meth c H locs cells slots Q (F0 m (pc + 1) ls' rest)) : W p l e R s m args below meth c H locs cells slots Q (F0 m pc ls (.int x :: rest)) := by
  intro T hT X
  obtain ⟨t, a, b⟩ := kk T hT X
  refine ⟨t, ?_, b⟩
  jvm_step X.here [X.here.top, ↓top_set X.here.top, hexec, hb, hdg, e']
  exact a
theorem x_istore (hexec : p.tables.exec = Jvm.exec) (hb : c.code = cc) {k : Nat} {x : Int32} (hdg : decode cc pc = .ok (.istore k, 2)) (e' : storeLocals ls k (.int x) = some ls')
    (kk : W p l e R s m args below meth c H locs cells slots Q (F0 m (pc + 2) ls' rest)) : W p l e R s m args below meth c H locs cells slots Q (F0 m pc ls (.int x :: rest)) := by
  intro T hT X
  obtain ⟨t, a, b⟩ := kk T hT X
  refine ⟨t, ?_, b⟩
  jvm_step X.here [X.here.top, ↓top_set X.here.top, hexec, hb, hdg, e']
  exact a
theorem x_astore_n (hexec : p.tables.exec = Jvm.exec) (hb : c.code = cc) {k : Fin 4} {v : Value} (hdg : decode cc pc = .ok (.astore_n k, 1)) (e' : storeLocals ls k.val v = some ls') (hv : v.isRef = true)
    (kk : W p l e R s m args below meth c H locs cells slots Q (F0 m (pc + 1) ls' rest)) : W p l e R s m args below meth c H locs cells slots Q (F0 m pc ls (v :: rest)) := by
  intro T hT X
  obtain ⟨t, a, b⟩ := kk T hT X
  refine ⟨t, ?_, b⟩
  cases v <;> first | (cases hv; done) | (jvm_step X.here [X.here.top, ↓top_set X.here.top, hexec, hb, hdg, e', Value.isRef]; exact a)
theorem x_astore (hexec : p.tables.exec = Jvm.exec) (hb : c.code = cc) {k : Nat} {v : Value} (hdg : decode cc pc = .ok (.astore k, 2)) (e' : storeLocals ls k v = some ls') (hv : v.isRef = true)
    (kk : W p l e R s m args below meth c H locs cells slots Q (F0 m (pc + 2) ls' rest)) : W p l e R s m args below meth c H locs cells slots Q (F0 m pc ls (v :: rest)) := by
  intro T hT X
  obtain ⟨t, a, b⟩ := kk T hT X
  refine ⟨t, ?_, b⟩
  cases v <;> first | (cases hv; done) | (jvm_step X.here [X.here.top, ↓top_set X.here.top, hexec, hb, hdg, e', Value.isRef]; exact a)
theorem x_iinc (hexec : p.tables.exec = Jvm.exec) (hb : c.code = cc) {k : Nat} {n : Int} {x : Int32} (hdg : decode cc pc = .ok (.iinc k n, 3)) (hg : ls[k]? = some (.val (.int x))) (e' : storeLocals ls k (.int (x + Int32.ofInt n)) = some ls')
    (kk : W p l e R s m args below meth c H locs cells slots Q (F0 m (pc + 3) ls' rest)) : W p l e R s m args below meth c H locs cells slots Q (F0 m pc ls rest) := by
  intro T hT X
  obtain ⟨t, a, b⟩ := kk T hT X
  refine ⟨t, ?_, b⟩
  jvm_step X.here [X.here.top, ↓top_set X.here.top, hexec, hb, hdg, hg, e']
  exact a
end XW
section XS
variable {E : xE} {i : Nat} {Z : List Frame → Array Value → State → State → Prop} {pc : Nat} {L : List (Option Value)} {st : List Value} {M : xM} {nx cb sb : Nat}
theorem XZ.go {pc' : Nat} {st' : List Value} (h : ∀ {p : Program} {e : Env} {s : State} {m : MethodId} {args : Array Value} {below : List Frame} {meth : Method} {c : Code} {H : Heap} {locs : List Loc} {cells slots : Nat} {ls : Array Slot} {Q : State → Prop}, p.tables.exec = Jvm.exec → c.code = xcode i → xlr ls L →
      W p E.1 e (xrm i) s m args below meth c H locs cells slots Q (F0 m pc' ls st') → W p E.1 e (xrm i) s m args below meth c H locs cells slots Q (F0 m pc ls st))
    (k : XZ E i Z pc' L st' M nx cb sb) : XZ E i Z pc L st M nx cb sb :=
  fun g p e s m args below meth c H locs cells slots ls C hM hn hl hL hc hs hq => h C.1 C.2.1 hl (k g p e s m args below meth c H locs cells slots ls C hM hn hl hL hc hs hq)
/-- a branch -/
theorem XZ.br {pa pb : Nat} {st' : List Value} {t : Prop} (dt : Decidable t) (h : ∀ {p : Program} {e : Env} {s : State} {m : MethodId} {args : Array Value} {below : List Frame} {meth : Method} {c : Code} {H : Heap} {locs : List Loc} {cells slots : Nat} {ls : Array Slot} {Q : State → Prop}, p.tables.exec = Jvm.exec → c.code = xcode i →
      (t → W p E.1 e (xrm i) s m args below meth c H locs cells slots Q (F0 m pa ls st')) → (¬ t → W p E.1 e (xrm i) s m args below meth c H locs cells slots Q (F0 m pb ls st')) → W p E.1 e (xrm i) s m args below meth c H locs cells slots Q (F0 m pc ls st))
    (k1 : t → XZ E i Z pa L st' M nx cb sb) (k2 : ¬ t → XZ E i Z pb L st' M nx cb sb) : XZ E i Z pc L st M nx cb sb :=
  fun g p e s m args below meth c H locs cells slots ls C hM hn hl hL hc hs hq => h C.1 C.2.1 (fun z => k1 z g p e s m args below meth c H locs cells slots ls C hM hn hl hL hc hs hq) (fun z => k2 z g p e s m args below meth c H locs cells slots ls C hM hn hl hL hc hs hq)
theorem xif {t : Prop} [dt : Decidable t] {A B : Prop} (h : if t then A else B) : (t → A) ∧ (¬ t → B) := by
  by_cases z : t
  · rw [if_pos z] at h
    exact ⟨fun _ => h, fun n => absurd z n⟩
  · rw [if_neg z] at h
    exact ⟨fun n => absurd n z, fun _ => h⟩
theorem xs_store1 {pc' j : Nat} {v : Value} {r : List Value} (hj : j < L.length) (hc1 : v.category = 1)
    (h : ∀ {p : Program} {e : Env} {s : State} {m : MethodId} {args : Array Value} {below : List Frame} {meth : Method} {c : Code} {H : Heap} {locs : List Loc} {cells slots : Nat} {ls ls' : Array Slot} {Q : State → Prop}, p.tables.exec = Jvm.exec → c.code = xcode i → storeLocals ls j v = some ls' →
      W p E.1 e (xrm i) s m args below meth c H locs cells slots Q (F0 m pc' ls' r) → W p E.1 e (xrm i) s m args below meth c H locs cells slots Q (F0 m pc ls st))
    (k : XZ E i Z pc' (L.set j (some v)) r M nx cb sb) : XZ E i Z pc L st M nx cb sb := by
  intro g p e s m args below meth c H locs cells slots ls C hM hn hl hL hc hs hq
  obtain ⟨ls', e', hl'⟩ := hl.store hj hc1
  exact h C.1 C.2.1 e' (k g p e s m args below meth c H locs cells slots ls' C hM hn hl' (by rw [List.length_set]; exact hL) hc hs hq)
theorem xs_iinc {j : Nat} {n : Int} {x : Int32} (hd : decode (xcode i) pc = .ok (.iinc j n, 3)) (h1 : L[j]? = some (some (.int x))) (k : XZ E i Z (pc + 3) (L.set j (some (.int (x + Int32.ofInt n)))) st M nx cb sb) : XZ E i Z pc L st M nx cb sb := by
  intro g p e s m args below meth c H locs cells slots ls C hM hn hl hL hc hs hq
  obtain ⟨ls', e', hl'⟩ := hl.store (v := .int (x + Int32.ofInt n)) (List.getElem?_eq_some_iff.mp h1).1 rfl
  exact x_iinc C.1 C.2.1 hd (hl.at h1) e' (k g p e s m args below meth c H locs cells slots ls' C hM hn hl' (by rw [List.length_set]; exact hL) hc hs hq)
theorem xsw_spec {x : Int32} {d : Nat} {P : Nat → Prop} : ∀ {l : List (Int32 × Nat)}, xsw x d P l → (∃ q ∈ l, q.1 = x ∧ P q.2) ∨ ((∀ q ∈ l, q.1 ≠ x) ∧ P d)
  | [], h => Or.inr ⟨(fun q hq => by cases hq), h⟩
  | q :: r, h => by
    unfold xsw at h
    by_cases e : x = q.1
    · rw [if_pos e] at h
      exact Or.inl ⟨q, List.mem_cons_self, e.symm, h⟩
    · rw [if_neg e] at h
      rcases xsw_spec h with ⟨y, hy, h1, h2⟩ | ⟨h1, h2⟩
      · exact Or.inl ⟨y, List.mem_cons_of_mem _ hy, h1, h2⟩
      · refine Or.inr ⟨fun y hy => ?_, h2⟩
        rcases List.mem_cons.mp hy with rfl | hy
        · exact fun z => e z.symm
        · exact h1 y hy
theorem xs_table {K : Nat → List (Option Value) → List Value → xM → Nat → Nat → Nat → Prop} {KX : Nat → List (Option Value) → List Value → xM → Nat → Nat → Nat → Prop} {Rf : Option Value → xM → Nat → Prop} (hK : ∀ pc L st M nx cb sb, K pc L st M nx cb sb → XZ E i Z pc L st M nx cb sb)
    {d lo hi : Int} {offs : Array Int} {len : Nat} {row : xI} (hd : decode (xcode i) pc = .ok (.tableswitch d lo hi offs, len)) (hr : xenc i pc len (.tableswitch d lo hi offs) = some row) (h : xstep K KX Rf E pc len L st M nx cb sb row) : XZ E i Z pc L st M nx cb sb := by
  obtain ⟨h1, hr⟩ := xite_spec (show (if xtsOk pc d lo hi offs = true then some (47, 0, xt pc d, 0, 0, xts pc lo offs.toList) else none) = some row from hr)
  cases hr
  obtain ⟨b1, b2, b3, b4, b5⟩ := xtsOk_spec h1
  obtain ⟨x, r, rfl, h⟩ := xI1_spec h
  rcases xsw_spec h with ⟨q, hq, e, h⟩ | ⟨h1, h⟩
  · obtain ⟨k, off, hk, rfl⟩ := xts_mem hq
    have hk2 : offs[k]? = some off := by rw [← Array.getElem?_toList]; exact hk
    have hlt : k < offs.size := (Array.getElem?_eq_some_iff.mp hk2).1
    have e2 : x.toInt = lo + (k : Int) := by
      rw [← e]
      exact Int32.toInt_ofInt_of_le (by omega) (by omega)
    exact XZ.go (fun hx hb _ w => lv_tableIn hx hb hd (by omega) (by omega) (by rw [show (x.toInt - lo).toNat = k by omega]; exact hk2) (b5 k off hk2) w) (hK _ _ _ _ _ _ _ h)
  · have ho : x.toInt < lo ∨ hi < x.toInt := by
      by_cases c1 : x.toInt < lo
      · exact Or.inl c1
      · by_cases c2 : hi < x.toInt
        · exact Or.inr c2
        · exfalso
          have hlt : (x.toInt - lo).toNat < offs.size := by omega
          refine h1 _ (xts_in (lo := lo) (pc := pc) (k := (x.toInt - lo).toNat) (show offs.toList[(x.toInt - lo).toNat]? = some offs[(x.toInt - lo).toNat] by rw [Array.getElem?_toList, Array.getElem?_eq_getElem hlt])) ?_
          show Int32.ofInt (lo + ((x.toInt - lo).toNat : Int)) = x
          rw [show lo + ((x.toInt - lo).toNat : Int) = x.toInt by omega, Int32.ofInt_toInt]
    exact XZ.go (fun hx hb _ w => lv_tableOut hx hb hd ho b4 w) (hK _ _ _ _ _ _ _ h)
theorem xarrOf {E : xE} {s : State} {cell : Cell} {a t : Nat} (hW : E.2.1.WarmedH s.vm) (h1 : cell.vm.isStatics = false) (h2 : xarc E a t cell.cls) : s.isArrayOf cell (xaty t) := by
  obtain ⟨k, comp, h3, h4, -, -⟩ := h2
  obtain ⟨k', hk', he⟩ := hW.alike.2.2 _ _ h3
  exact ⟨(fun q h => by rw [h] at h1; cases h1), k', hk', comp, by rw [he]; exact h4⟩
theorem xat.set {E : xE} {a t n j : Nat} {f : Nat → Value} {v : Value} {cell : Cell} {H H' : Heap} (h : xat E a (.inr (t, n, f)) H) (hc : H[a]? = some cell) (h1 : H'[a]? = some (cell.setSlot j v)) (hj : j < n) : xat E a (.inr (t, n, updV f j v)) H' := by
  obtain ⟨cell', c1, c2, c3, c4, c5, c6, c7, c8⟩ := h
  cases hc.symm.trans c1
  refine ⟨cell.setSlot j v, h1, c2, c3, c4, c5, ?_, fun q hq => ?_, fun ha => ?_⟩
  · rw [k2_slotsz]
    exact c6
  · by_cases e : q = j
    · subst e
      rw [Cell.slots_setSlot_self v (by rw [c6]; exact hj)]
      simp [updV]
    · rw [slot_ne cell v (fun z => e z.symm), c7 q hq]
      simp [updV, e]
  · have z := c8 ha
    show cell.setSlot j v = arrV cell.cls n (updV f j v)
    rw [← arrV_store]
    exact congrArg (fun y => y.setSlot j v) z
theorem xlocs {E : xE} {locs : List Loc} {a k : Nat} (h : ∀ q ∈ locs, E.2.1.heap.size ≤ q.base) (ha : E.2.1.heap.size ≤ a) : ∀ q ∈ locs ++ [⟨a, k⟩], E.2.1.heap.size ≤ q.base := t_lc (free := fun q => E.2.1.heap.size ≤ q) h ha
theorem xs_alen {a t n : Nat} {f : Nat → Value} {r : List Value} (hd : decode (xcode i) pc = .ok (.arraylength, 1)) (h1 : M a = some (.inr (t, n, f))) (k : XZ E i Z (pc + 1) L (.int (Int32.ofNat n) :: r) M nx cb sb) : XZ E i Z pc L (.ref a :: r) M nx cb sb := by
  intro g p e s m args below meth c H locs cells slots ls C hM hn hl hL hc hs hq
  obtain ⟨cell, c1, c2, c3, c4, c5, c6, c7, c8⟩ := hM.2.2 a _ h1
  exact W.alen (n := Int32.ofNat n) C.1 C.2.1 c1 (xarrOf C.2.2.2.2.2.2.2 c2 c5) (by rw [c6] <;> rfl) rfl rfl hd (k g p e s m args below meth c H locs cells slots ls C hM hn hl hL hc hs hq)
theorem xidx {j : Int32} {n : Nat} {cell : Cell} (h4 : ¬ j < 0) (h5 : j.toNatClampNeg < n) (c6 : cell.slots.size = n) : ¬ (j < 0 ∨ cell.slots.size ≤ j.toNatClampNeg) := by
  rw [c6]
  exact fun z => z.elim h4 (fun z => Nat.not_le.mpr h5 z)
theorem xs_iaload {a t n : Nat} {f : Nat → Value} {j : Int32} {r : List Value} (hd : decode (xcode i) pc = .ok (.iaload, 1)) (h1 : M a = some (.inr (t, n, f))) (h2 : 0 ≤ t) (h3 : t ≤ 0) (h4 : ¬ j < 0) (h5 : j.toNatClampNeg < n) (k : XZ E i Z (pc + 1) L (f j.toNatClampNeg :: r) M nx cb sb) : XZ E i Z pc L (.int j :: .ref a :: r) M nx cb sb := by
  intro g p e s m args below meth c H locs cells slots ls C hM hn hl hL hc hs hq
  obtain ⟨cell, c1, c2, c3, c4, c5, c6, c7, c8⟩ := hM.2.2 a _ h1
  have ht : t = 0 := by omega
  subst ht
  exact W.iald C.1 C.2.1 c1 (xarrOf (t := 0) C.2.2.2.2.2.2.2 c2 c5) c3 (xidx h4 h5 c6) (c7 _ h5) rfl rfl hd (k g p e s m args below meth c H locs cells slots ls C hM hn hl hL hc hs hq)
theorem xs_baload {a t n : Nat} {f : Nat → Value} {j : Int32} {r : List Value} (hd : decode (xcode i) pc = .ok (.baload, 1)) (h1 : M a = some (.inr (t, n, f))) (h2 : 1 ≤ t) (h3 : t ≤ 2) (h4 : ¬ j < 0) (h5 : j.toNatClampNeg < n) (k : XZ E i Z (pc + 1) L (f j.toNatClampNeg :: r) M nx cb sb) : XZ E i Z pc L (.int j :: .ref a :: r) M nx cb sb := by
  intro g p e s m args below meth c H locs cells slots ls C hM hn hl hL hc hs hq
  obtain ⟨cell, c1, c2, c3, c4, c5, c6, c7, c8⟩ := hM.2.2 a _ h1
  have ht : t = 1 ∨ t = 2 := by omega
  rcases ht with rfl | rfl
  · exact W.bald C.1 C.2.1 c1 (xarrOf (t := 1) C.2.2.2.2.2.2.2 c2 c5) c3 (xidx h4 h5 c6) (c7 _ h5) rfl rfl hd (k g p e s m args below meth c H locs cells slots ls C hM hn hl hL hc hs hq)
  · exact W.zald C.1 C.2.1 c1 (xarrOf (t := 2) C.2.2.2.2.2.2.2 c2 c5) c3 (xidx h4 h5 c6) (c7 _ h5) rfl rfl hd (k g p e s m args below meth c H locs cells slots ls C hM hn hl hL hc hs hq)
theorem xs_caload {a t n : Nat} {f : Nat → Value} {j : Int32} {r : List Value} (hd : decode (xcode i) pc = .ok (.caload, 1)) (h1 : M a = some (.inr (t, n, f))) (h2 : 3 ≤ t) (h3 : t ≤ 3) (h4 : ¬ j < 0) (h5 : j.toNatClampNeg < n) (k : XZ E i Z (pc + 1) L (f j.toNatClampNeg :: r) M nx cb sb) : XZ E i Z pc L (.int j :: .ref a :: r) M nx cb sb := by
  intro g p e s m args below meth c H locs cells slots ls C hM hn hl hL hc hs hq
  obtain ⟨cell, c1, c2, c3, c4, c5, c6, c7, c8⟩ := hM.2.2 a _ h1
  have ht : t = 3 := by omega
  subst ht
  exact W.cald C.1 C.2.1 c1 (xarrOf (t := 3) C.2.2.2.2.2.2.2 c2 c5) c3 (xidx h4 h5 c6) (c7 _ h5) rfl rfl hd (k g p e s m args below meth c H locs cells slots ls C hM hn hl hL hc hs hq)
theorem xaty_ref {t : Nat} (h : 4 ≤ t) : xaty t = .object ((xcl[xaci t]?).elim "" (fun q => q.1)) := by
  unfold xaty
  split <;> first | omega | rfl
theorem xs_aaload {a t n : Nat} {f : Nat → Value} {j : Int32} {r : List Value} (hd : decode (xcode i) pc = .ok (.aaload, 1)) (h1 : M a = some (.inr (t, n, f))) (h2 : 4 ≤ t) (h3 : t ≤ 1000) (h4 : ¬ j < 0) (h5 : j.toNatClampNeg < n) (k : XZ E i Z (pc + 1) L (f j.toNatClampNeg :: r) M nx cb sb) : XZ E i Z pc L (.int j :: .ref a :: r) M nx cb sb := by
  intro g p e s m args below meth c H locs cells slots ls C hM hn hl hL hc hs hq
  obtain ⟨cell, c1, c2, c3, c4, c5, c6, c7, c8⟩ := hM.2.2 a _ h1
  have ha := xarrOf C.2.2.2.2.2.2.2 c2 c5
  exact W.aald C.1 C.2.1 c1 ha (by rw [xaty_ref h2]; rfl) c3 (xidx h4 h5 c6) (c7 _ h5) rfl rfl hd (k g p e s m args below meth c H locs cells slots ls C hM hn hl hL hc hs hq)
theorem xs_iastore {a t n : Nat} {f : Nat → Value} {x j : Int32} {r : List Value} (hd : decode (xcode i) pc = .ok (.iastore, 1)) (h0 : xb E ≤ a) (h1 : M a = some (.inr (t, n, f))) (h2 : 0 ≤ t) (h3 : t ≤ 0) (h4 : ¬ j < 0) (h5 : j.toNatClampNeg < n) (k : XZ E i Z (pc + 1) L r (xput M a (.inr (t, n, updV f j.toNatClampNeg (.int (xnar t x))))) nx cb sb) : XZ E i Z pc L (.int x :: .int j :: .ref a :: r) M nx cb sb := by
  intro g p e s m args below meth c H locs cells slots ls C hM hn hl hL hc hs hq
  have hA := hM.2.2 a _ h1
  obtain ⟨cell, c1, c2, c3, c4, c5, c6, c7, c8⟩ := hM.2.2 a _ h1
  have ht : t = 0 := by omega
  subst ht
  exact W.iast C.1 C.2.1 c1 (xarrOf (t := 0) C.2.2.2.2.2.2.2 c2 c5) c3 (xidx h4 h5 c6) rfl rfl hd (fun H' e1 e2 e3 => k g p e s m args below meth c H' _ cells slots ls C (hM.put h0 e2 e3 (hA.set c1 e1 h5)) (by rw [e2]; exact hn) hl hL hc hs (xlocs hq h0))
theorem xs_bastore {a t n : Nat} {f : Nat → Value} {x j : Int32} {r : List Value} (hd : decode (xcode i) pc = .ok (.bastore, 1)) (h0 : xb E ≤ a) (h1 : M a = some (.inr (t, n, f))) (h2 : 1 ≤ t) (h3 : t ≤ 2) (h4 : ¬ j < 0) (h5 : j.toNatClampNeg < n) (k : XZ E i Z (pc + 1) L r (xput M a (.inr (t, n, updV f j.toNatClampNeg (.int (xnar t x))))) nx cb sb) : XZ E i Z pc L (.int x :: .int j :: .ref a :: r) M nx cb sb := by
  intro g p e s m args below meth c H locs cells slots ls C hM hn hl hL hc hs hq
  have hA := hM.2.2 a _ h1
  obtain ⟨cell, c1, c2, c3, c4, c5, c6, c7, c8⟩ := hM.2.2 a _ h1
  have ht : t = 1 ∨ t = 2 := by omega
  rcases ht with rfl | rfl
  · exact W.bast C.1 C.2.1 c1 (xarrOf (t := 1) C.2.2.2.2.2.2.2 c2 c5) c3 (xidx h4 h5 c6) rfl rfl hd (fun H' e1 e2 e3 => k g p e s m args below meth c H' _ cells slots ls C (hM.put h0 e2 e3 (hA.set c1 e1 h5)) (by rw [e2]; exact hn) hl hL hc hs (xlocs hq h0))
  · exact W.zast C.1 C.2.1 c1 (xarrOf (t := 2) C.2.2.2.2.2.2.2 c2 c5) c3 (xidx h4 h5 c6) rfl rfl hd (fun H' e1 e2 e3 => k g p e s m args below meth c H' _ cells slots ls C (hM.put h0 e2 e3 (hA.set c1 e1 h5)) (by rw [e2]; exact hn) hl hL hc hs (xlocs hq h0))
theorem xs_castore {a t n : Nat} {f : Nat → Value} {x j : Int32} {r : List Value} (hd : decode (xcode i) pc = .ok (.castore, 1)) (h0 : xb E ≤ a) (h1 : M a = some (.inr (t, n, f))) (h2 : 3 ≤ t) (h3 : t ≤ 3) (h4 : ¬ j < 0) (h5 : j.toNatClampNeg < n) (k : XZ E i Z (pc + 1) L r (xput M a (.inr (t, n, updV f j.toNatClampNeg (.int (xnar t x))))) nx cb sb) : XZ E i Z pc L (.int x :: .int j :: .ref a :: r) M nx cb sb := by
  intro g p e s m args below meth c H locs cells slots ls C hM hn hl hL hc hs hq
  have hA := hM.2.2 a _ h1
  obtain ⟨cell, c1, c2, c3, c4, c5, c6, c7, c8⟩ := hM.2.2 a _ h1
  have ht : t = 3 := by omega
  subst ht
  exact W.cast C.1 C.2.1 c1 (xarrOf (t := 3) C.2.2.2.2.2.2.2 c2 c5) c3 (xidx h4 h5 c6) rfl rfl hd (fun H' e1 e2 e3 => k g p e s m args below meth c H' _ cells slots ls C (hM.put h0 e2 e3 (hA.set c1 e1 h5)) (by rw [e2]; exact hn) hl hL hc hs (xlocs hq h0))
theorem xs_aastore {a t n : Nat} {f : Nat → Value} {v : Value} {j : Int32} {r : List Value} (hd : decode (xcode i) pc = .ok (.aastore, 1)) (h0 : xb E ≤ a) (h1 : M a = some (.inr (t, n, f))) (h2 : 4 ≤ t) (h4 : ¬ j < 0) (h5 : j.toNatClampNeg < n) (h6 : xastok M t v) (k : XZ E i Z (pc + 1) L r (xput M a (.inr (t, n, updV f j.toNatClampNeg v))) nx cb sb) : XZ E i Z pc L (v :: .int j :: .ref a :: r) M nx cb sb := by
  intro g p e s m args below meth c H locs cells slots ls C hM hn hl hL hc hs hq
  have hA := hM.2.2 a _ h1
  obtain ⟨cell, c1, c2, c3, c4, c5, c6, c7, c8⟩ := hM.2.2 a _ h1
  have hW := C.2.2.2.2.2.2.2
  have ha := xarrOf hW c2 c5
  unfold xastok at h6
  split at h6
  · exact va_WaastN (C := (xcl[xaci t]?).elim "" (fun q => q.1)) C.1 C.2.1 c1 (by rw [← xaty_ref h2]; exact ha) c3 (xidx h4 h5 c6) rfl rfl hd (fun H' e1 e2 e3 => k g p e s m args below meth c H' _ cells slots ls C (hM.put h0 e2 e3 (hA.set c1 e1 h5)) (by rw [e2]; exact hn) hl hL hc hs (xlocs hq h0))
  · next b =>
    obtain ⟨fs, g1, -⟩ := xobj_spec h6
    obtain ⟨cellV, d1, d2, d3, d4, cd, d5, d6, d7, d8⟩ := hM.2.2 b _ g1
    obtain ⟨kA, comp, k1, k2, k3, -⟩ := c5
    have hty : xaty t = .object cd.1 := by rw [xaty_ref h2]; dsimp only at d5; rw [d5]; rfl
    have hKn := u_Kn_moved hW.alike (g.2.1 _ _ d5)
    obtain ⟨k', hk', he⟩ := hW.alike.2.2 _ _ k1
    have hcomp : comp = E.2.2.1.1 (xaci t) := by
      have z := k3 _ hty
      have z2 := (g.2.1 _ _ d5).2.1
      exact Option.some.inj (z.symm.trans z2)
    obtain ⟨kC, hkC, -⟩ := hKn.2.2
    refine W.aast C.1 C.2.1 c1 (fun q h => by rw [h] at c2; cases c2) c3 hk' (by rw [he]; exact k2) (by rw [hty]; rfl) (kcomp := kC) (by rw [hcomp]; exact hkC) ⟨h4, by rw [c6]; exact h5⟩ d1 (fun q h => by rw [h] at d2; cases d2) (kv := kC) (by rw [d6]; exact hkC) (by rw [d6, hcomp]; exact va_assign hKn.2) rfl rfl hd (fun H' e1 e2 e3 => k g p e s m args below meth c H' _ cells slots ls C (hM.put h0 e2 e3 (hA.set c1 e1 h5)) (by rw [e2]; exact hn) hl hL hc hs (xlocs hq h0))
  · exact h6.elim
theorem xs_newarray {K KX : Nat → List (Option Value) → List Value → xM → Nat → Nat → Nat → Prop} {Rf : Option Value → xM → Nat → Prop} {at' : Jvm.ClassFile.ArrayType} {t : Nat} (hd : decode (xcode i) pc = .ok (.newarray at', 2)) (ht : newarray.typeOf at' = xaty t ∧ t < 4) (hK : ∀ pc L st M nx cb sb, K pc L st M nx cb sb → XZ E i Z pc L st M nx cb sb)
    (h : xstep K KX Rf E pc 2 L st M nx cb sb (54, 0, t, 0, 0, [])) : XZ E i Z pc L st M nx cb sb := by
  obtain ⟨n, r, rfl, h1, h2, h3, h4, h⟩ := xI1_spec h
  have k := hK _ _ _ _ _ _ _ h
  intro g p e s m args below meth c H locs cells slots ls C hM hn hl hL hc hs hq
  have hW := C.2.2.2.2.2.2.2
  subst hn
  refine W.newa C.1 C.2.1 (by rw [ht.1]; exact xword g (xarrc ht.2) rfl hW args) rfl hd rfl h1 (by rw [ht.1]; exact xbytes ht.2 h2) (by show _ ≤ xmc i; omega) (by show _ ≤ xms i; omega) fun cA kA comp g1 g2 g3 => ?_
  generalize hH1 : H.push ({ cls := cA, slots := Array.replicate n.toNatClampNeg (defaultValue (newarray.typeOf at')), vm := .none } : Cell) = H1
  have z1 : H1.size = H.size + 1 := by rw [← hH1, Array.size_push]
  have e1 : H1[H.size]? = some ({ cls := cA, slots := Array.replicate n.toNatClampNeg (defaultValue (newarray.typeOf at')), vm := .none } : Cell) := by rw [← hH1, Array.getElem?_push_size]
  have o1 : ∀ q : Nat, q < H.size → H1[q]? = H[q]? := fun q hq => by rw [← hH1, Array.getElem?_push, if_neg (Nat.ne_of_lt hq)]
  obtain ⟨k', hk', he⟩ := hW.alike.symm.2.2 _ _ g2
  refine k g p e s m args below meth c H1 locs (cells + 1) (slots + n.toNatClampNeg) ls C (hM.new z1 o1 ⟨_, e1, rfl, (fun z => nomatch z), (fun _ => rfl), ⟨k', comp, hk', (by rw [he, g3, ht.1]), (fun C2 z => ?_), (fun _ => by rw [← hW.alike.findClass, ← ht.1]; exact g1)⟩, ?_, fun j hj => ?_, fun _ => ?_⟩) z1 hl hL (by omega) (by omega) hq
  · exact absurd z (xaty_small ht.2 C2)
  · show (Array.replicate _ _).size = _
    rw [Array.size_replicate]
  · show (Array.replicate _ _)[j]? = _
    rw [Array.getElem?_replicate, if_pos hj, ht.1, xaty_def ht.2]
  · show _ = arrV cA _ _
    rw [ht.1, xaty_def ht.2]
    exact arrV_new _ _ _
end XS
end
section
section XS
variable {E : xE} {i : Nat} {Z : List Frame → Array Value → State → State → Prop} {pc : Nat} {L : List (Option Value)} {st : List Value} {M : xM} {nx cb sb : Nat}
theorem xlk_spec {cn idx op : Nat} {row : xI} (h : xlk cn idx op = some row) : xlok (cn, idx, op, row) := by
  unfold xlk at h
  cases hf : xlinks.find? (fun q => q.1 == cn && q.2.1 == idx && q.2.2.1 == op) with
  | none => rw [hf] at h; cases h
  | some q =>
    rw [hf] at h
    have h1 := List.find?_some hf
    have h2 := xlinks_ok q (List.mem_of_find?_eq_some hf)
    obtain ⟨a, b, d, r⟩ := q
    simp only [Bool.and_eq_true, beq_iff_eq] at h1
    obtain ⟨⟨rfl, rfl⟩, rfl⟩ := h1
    cases h
    exact h2
theorem xlays {E : xE} (g : xglob E) {ci k : Nat} {cd : vw_C} (f1 : xcl[ci]? = some cd) (f2 : k < cd.2.2) {s : State} (hW : E.2.1.WarmedH s.vm) (args : Array Value) :
    (Cond.lays cd.1 (cd.2.1 k).1 (cd.2.1 k).2.1 (cd.2.1 k).2.2.1).before args s = true ∨ (Cond.laysFinal cd.1 (cd.2.1 k).1 (cd.2.1 k).2.1 (cd.2.1 k).2.2.1).before args s = true := by
  have h := xword g (xcl_ws f1 _ (u_in_lay f2)) (by unfold u_lay; split <;> rfl) hW args
  unfold u_lay at h
  split at h
  · exact Or.inr h
  · exact Or.inl h
theorem xapart {E : xE} (g : xglob E) {ci : Nat} {cd : vw_C} (f1 : xcl[ci]? = some cd) {x y : Nat} (hx : x < cd.2.2) (hy : y < cd.2.2) (hne : x ≠ y) : E.2.2.1.2 ci x ≠ E.2.2.1.2 ci y := by
  obtain ⟨hS, -⟩ := g.2.1 _ _ f1
  obtain ⟨_, _, _, fa, hia, ea⟩ := hS x hx
  obtain ⟨_, _, _, fb, hib, eb⟩ := hS y hy
  obtain ⟨tx, htx⟩ := xcl_ty f1 hx
  obtain ⟨ty, hty⟩ := xcl_ty f1 hy
  rw [← ea, ← eb]
  refine u_apart (xlays g f1 hx (State.WarmedH.refl _) #[]) (xlays g f1 hy (State.WarmedH.refl _) #[]) hia hib ?_
  rw [(State.fieldFound?_type hia htx).1, (State.fieldFound?_type hib hty).1]
  exact xcl_nm f1 hx hy hne
theorem xfit_spec {ty : FieldType} {v : Value} (h : xfit (xtcT ty) v) : narrow ty v = v ∧ fits ty v = true := by
  cases ty <;> cases v <;> first | (exact False.elim h) | (exact ⟨rfl, rfl⟩) | skip
  · next x =>
    have h : x.toInt8.toInt32 = x := h
    refine ⟨by show Value.int _ = _; rw [h], ?_⟩
    have h2 := fits_narrow_byte x
    rw [show narrow .byte (.int x) = .int x by show Value.int _ = _; rw [h]] at h2
    exact h2
  · next x =>
    have h : narrow .char (.int x) = .int x := h
    refine ⟨h, ?_⟩
    have h2 := fits_narrow_char x
    rw [h] at h2
    exact h2
  · next x =>
    rcases (show x = 0 ∨ x = 1 from h) with rfl | rfl
    · exact ⟨rfl, rfl⟩
    · exact ⟨rfl, rfl⟩
theorem xat.setF {E : xE} (g : xglob E) {a ci k : Nat} {fs : List Value} {v : Value} {cell : Cell} {cd : vw_C} {H H' : Heap} (h : xat E a (.inl (ci, fs)) H) (f1 : xcl[ci]? = some cd) (hc : H[a]? = some cell) (h1 : H'[a]? = some (cell.setSlot (E.2.2.1.2 ci k) v)) (hk : k < cd.2.2) (hl : k < fs.length) (hlt : E.2.2.1.2 ci k < cell.slots.size) : xat E a (.inl (ci, fs.set k v)) H' := by
  obtain ⟨cell', c1, c2, c3, c4, cd', c5, c6, c7, c8⟩ := h
  cases hc.symm.trans c1
  cases f1.symm.trans c5
  refine ⟨cell.setSlot (E.2.2.1.2 ci k) v, h1, c2, c3, c4, cd, f1, c6, by rw [List.length_set]; exact c7, fun j w hw => ?_⟩
  rw [List.getElem?_set] at hw
  by_cases e : k = j
  · subst e
    rw [if_pos rfl, if_pos hl] at hw
    cases hw
    exact Cell.slots_setSlot_self v hlt
  · rw [if_neg e] at hw
    have hj : j < cd.2.2 := by
      have h9 := (List.getElem?_eq_some_iff.mp hw).1
      dsimp only at c7
      omega
    rw [slot_ne cell v (xapart g f1 hk hj e)]
    exact c8 j w hw
section XL
variable {K KX : Nat → List (Option Value) → List Value → xM → Nat → Nat → Nat → Prop} {Rf : Option Value → xM → Nat → Prop} {idx : Nat} {row : xI}
theorem xs_getfield (hK : ∀ pc L st M nx cb sb, K pc L st M nx cb sb → XZ E i Z pc L st M nx cb sb) (hd : decode (xcode i) pc = .ok (.getfield idx, 3)) (hr : xlk (xcn i) idx 50 = some row) (h : xstep K KX Rf E pc 3 L st M nx cb sb row) : XZ E i Z pc L st M nx cb sb := by
  obtain ⟨ci, k, rfl, cd, ref, f1, f2, f3, f4⟩ := xlk_spec hr
  obtain ⟨a, r, rfl, h⟩ := xA1_spec h
  obtain ⟨fs, g1, h⟩ := xobj_spec h
  obtain ⟨v, g2, h⟩ := xget_spec h
  have kk := hK _ _ _ _ _ _ _ h
  intro g p e s m args below meth c H locs cells slots ls C hM hn hl hL hc hs hq
  have hW := C.2.2.2.2.2.2.2
  obtain ⟨cell, c1, c2, c3, c4, cd', c5, c6, c7, c8⟩ := hM.2.2 a _ g1
  obtain ⟨hS, hfc, kC, hkC, hkind⟩ := u_Kn_moved hW.alike (g.2.1 _ _ f1)
  obtain ⟨cf, kf, fi, f, hi, hsl⟩ := hS k f2
  have hst := (u_facts hfc hkC (xlays g f1 f2 hW args) hi).1
  have hi2 : s.fieldFound? ref (cd.2.1 k).2.1 (cd.2.1 k).2.2.1 = some (cf, kf, fi, f) := by
    rcases f3 with rfl | f3
    · exact hi
    · exact u_same (xword g f3 rfl hW args) _ hi
  have hv : cell.slots[f.slot]? = some v := by rw [hsl]; exact c8 k v g2
  have hown := C.2.2.2.2.2.1
  rw [xm_own] at hown
  have k9 := kk g p e s m args below meth c H locs cells slots ls C hM hn hl hL hc hs hq
  rcases f4 with f4 | ⟨host, f4⟩
  · exact W.getf C.1 C.2.1 hown (xword g f4 rfl hW args) hi2 hst c1 c3 hv rfl rfl hd k9
  · exact va_Wgetf C.1 C.2.1 hown (xword g f4 rfl hW args) hi2 hst c1 c3 hv rfl rfl hd k9
theorem xs_put {ci k tc : Nat} {fin : Bool} (hK : ∀ pc L st M nx cb sb, K pc L st M nx cb sb → XZ E i Z pc L st M nx cb sb) (hd : decode (xcode i) pc = .ok (.putfield idx, 3)) (hF : xfld (xown (xcn i)) idx ci k) (hWr : xwr (xown (xcn i)) ci k tc fin) (hin : fin = true → (xy i).name = "<init>") (h : xstep K KX Rf E pc 3 L st M nx cb sb (51, 0, ci, k, tc, [])) : XZ E i Z pc L st M nx cb sb := by
  obtain ⟨cd, ref, f1, f2, f3, f4⟩ := hF
  obtain ⟨cd2, ty, w1, w2, w3, w4, w5⟩ := hWr
  cases f1.symm.trans w1
  subst w5
  obtain ⟨v, a, r, rfl, h0, hfit, h⟩ := xVA_spec h
  obtain ⟨fs, g1, hlen, h⟩ := xobj_spec h
  obtain ⟨n1, n2⟩ := xfit_spec hfit
  have kk := hK _ _ _ _ _ _ _ h
  intro g p e s m args below meth c H locs cells slots ls C hM hn hl hL hc hs hq
  have hW := C.2.2.2.2.2.2.2
  have hA := hM.2.2 a _ g1
  obtain ⟨cell, c1, c2, c3, c4, cd', c5, c6, c7, c8⟩ := hM.2.2 a _ g1
  obtain ⟨hS, hfc, kC, hkC, hkind⟩ := u_Kn_moved hW.alike (g.2.1 _ _ f1)
  obtain ⟨cf, kf, fi, f, hi, hsl⟩ := hS k f2
  have hlay := xlays g f1 f2 hW args
  have hst := (u_facts hfc hkC hlay hi).1
  have hi2 : s.fieldFound? ref (cd.2.1 k).2.1 (cd.2.1 k).2.2.1 = some (cf, kf, fi, f) := by
    rcases f3 with rfl | f3
    · exact hi
    · exact u_same (xword g f3 rfl hW args) _ hi
  have hown := C.2.2.2.2.2.1
  rw [xm_own] at hown
  have hvm : cell.vm = .none := c4 h0
  obtain ⟨q1, q2⟩ := u_fits hfc hkC hkind hlay hi w4 n1 n2
  have hlt : f.slot < cell.slots.size := by
    rw [hsl]
    have z : k < fs.length := hlen
    exact k2_hasslot (c8 k fs[k] (List.getElem?_eq_getElem z))
  have hfin : hasFlag f.accessFlags Acc.final = false ∨ (m.cls = cf ∧ meth.name = "<init>") := by
    have hl2 := xword g (xcl_ws f1 _ (u_in_lay f2)) (by unfold u_lay; split <;> rfl) hW args
    unfold u_lay at hl2
    cases hfn : fin with
    | false =>
      rw [hfn] at w2
      rw [if_neg (by rw [w2]; decide)] at hl2
      exact Or.inl (u_store hfc hkC hkind hl2 hi w4 n1 n2).1
    | true =>
      rw [if_pos (w2.trans hfn)] at hl2
      refine Or.inr ⟨?_, by rw [C.2.2.2.2.2.2.1]; exact hin hfn⟩
      obtain ⟨_, _, c', _, _, _, -, -, hf', -, -, -, hown2, -⟩ := Cond.laysFinal_spec hl2
      have e1 : c' = cf := by have := hi.symm.trans hf'; simp at this; exact this.1.symm
      rw [w3 hfn] at hown2
      rw [← e1]
      exact Option.some.inj (hown.symm.trans hown2)
  have hlta : a < H.size := (Array.getElem?_eq_some_iff.mp c1).1
  have k9 : W p E.1 e (xrm i) s m args below meth c (H.setIfInBounds a (cell.setSlot f.slot v)) (locs ++ [⟨a, f.slot⟩]) cells slots (Z below args s) (F0 m (pc + 3) ls r) := by
    refine kk g p e s m args below meth c _ _ cells slots ls C (hM.put h0 (by simp) (fun q hq => by simp [Array.getElem?_setIfInBounds, Ne.symm hq]) (hA.setF g f1 c1 (k := k) (v := v) ?_ f2 hlen ?_)) (by simp; exact hn) hl hL hc hs (xlocs hq h0)
    · rw [hsl]; simp [Array.getElem?_setIfInBounds, hlta]
    · rw [← hsl]; exact hlt
  rcases f4 with f4 | ⟨host, f4⟩
  · exact W.putf C.1 C.2.1 hown (xword g f4 rfl hW args) hi2 hst hfin c1 c3 hlt q1 (by rw [hvm, c6]; exact q2) rfl rfl hd k9
  · exact va_Wputf C.1 C.2.1 hown (xword g f4 rfl hW args) hi2 hst hfin c1 c3 hlt q1 (by rw [hvm, c6]; exact q2) rfl rfl hd k9
theorem xs_getstatic (hK : ∀ pc L st M nx cb sb, K pc L st M nx cb sb → XZ E i Z pc L st M nx cb sb) (hd : decode (xcode i) pc = .ok (.getstatic idx, 3)) (hr : xlk (xcn i) idx 52 = some row) (h : xstep K KX Rf E pc 3 L st M nx cb sb row) : XZ E i Z pc L st M nx cb sb := by
  obtain ⟨v, C0, n0, d0, rfl, f1, f2⟩ := xlk_spec hr
  have kk := hK _ _ _ _ _ _ _ h
  intro g p e s m args below meth c H locs cells slots ls C hM hn hl hL hc hs hq
  have hW := C.2.2.2.2.2.2.2
  have hown := C.2.2.2.2.2.1
  rw [xm_own] at hown
  obtain ⟨cf, kf, fi, f, a, cell, h1, h2, h3, h4, h5, h6, h7, h8⟩ := (g.2.2.2.1 _ f1).moved hW.alike
  have h9 : H[a]? = some cell := by rw [hM.2.1 a (Nat.not_le.mp h8)]; exact h5
  exact W.gets C.1 C.2.1 hown (xword g f2 rfl hW args) h1 h2 h3 h4 h9 (fun z => by rw [z] at h6; cases h6) h7 rfl hd (kk g p e s m args below meth c H locs cells slots ls C hM hn hl hL hc hs hq)
theorem xs_new (hK : ∀ pc L st M nx cb sb, K pc L st M nx cb sb → XZ E i Z pc L st M nx cb sb) (hd : decode (xcode i) pc = .ok (.new idx, 3)) (hr : xlk (xcn i) idx 53 = some row) (h : xstep K KX Rf E pc 3 L st M nx cb sb row) : XZ E i Z pc L st M nx cb sb := by
  obtain ⟨ci, n, cd, rfl, f1, f2, f3, f4⟩ := xlk_spec hr
  obtain ⟨h1, h2, h⟩ := h
  have kk := hK _ _ _ _ _ _ _ h
  intro g p e s m args below meth c H locs cells slots ls C hM hn hl hL hc hs hq
  have hW := C.2.2.2.2.2.2.2
  have hown := C.2.2.2.2.2.1
  rw [xm_own] at hown
  subst hn
  have hKn := u_Kn_moved hW.alike (g.2.1 _ _ f1)
  refine W.newcK C.1 C.2.1 hown (xword g f2 rfl hW args) (xword g f3 rfl hW args) (xword g f4 rfl hW args) rfl hd (by show _ ≤ xmc i; omega) (by show _ ≤ xms i; omega) hKn.2.1 rfl fun H1 kC hkC e1 z1 o1 => ?_
  refine kk g p e s m args below meth c H1 locs (cells + 1) (slots + n) ls C (hM.new z1 o1 ⟨_, e1, rfl, (fun z => nomatch z), (fun _ => rfl), cd, f1, rfl, xdef_len f1, fun k v hv => ?_⟩) z1 hl hL (by omega) (by omega) hq
  obtain ⟨ty, hk, hty, rfl⟩ := xdef_at f1 hv
  obtain ⟨cf, kf, fi, fd, hi, he⟩ := hKn.1 k hk
  have h3 := (u_facts hKn.2.1 hkC (xlays g f1 hk hW args) hi).2.2
  rw [(State.fieldFound?_type hi hty).2] at h3
  rw [← he]
  exact k2_blank h3
theorem xs_anewarray (hK : ∀ pc L st M nx cb sb, K pc L st M nx cb sb → XZ E i Z pc L st M nx cb sb) (hd : decode (xcode i) pc = .ok (.anewarray idx, 3)) (hr : xlk (xcn i) idx 55 = some row) (h : xstep K KX Rf E pc 3 L st M nx cb sb row) : XZ E i Z pc L st M nx cb sb := by
  obtain ⟨t, cd, rfl, f0, f1, f2, f3⟩ := xlk_spec hr
  obtain ⟨n, r, rfl, h1, h2, h3, h4, h⟩ := xI1_spec h
  have kk := hK _ _ _ _ _ _ _ h
  intro g p e s m args below meth c H locs cells slots ls C hM hn hl hL hc hs hq
  have hW := C.2.2.2.2.2.2.2
  have hown := C.2.2.2.2.2.1
  rw [xm_own] at hown
  subst hn
  have hty : xaty t = .object cd.1 := by rw [xaty_ref f0, f1]; rfl
  refine W.anew C.1 C.2.1 hown (xword g f2 rfl hW args) (xword g f3 rfl hW args) rfl hd rfl h1 (by omega) (by show _ ≤ xmc i; omega) (by show _ ≤ xms i; omega) fun cA kA comp g1 g2 g3 g4 => ?_
  generalize hH1 : H.push ({ cls := cA, slots := Array.replicate n.toNatClampNeg .null, vm := .none } : Cell) = H1
  have z1 : H1.size = H.size + 1 := by rw [← hH1, Array.size_push]
  have e1 : H1[H.size]? = some ({ cls := cA, slots := Array.replicate n.toNatClampNeg .null, vm := .none } : Cell) := by rw [← hH1, Array.getElem?_push_size]
  have o1 : ∀ q : Nat, q < H.size → H1[q]? = H[q]? := fun q hq => by rw [← hH1, Array.getElem?_push, if_neg (Nat.ne_of_lt hq)]
  obtain ⟨k', hk', he⟩ := hW.alike.symm.2.2 _ _ g2
  refine kk g p e s m args below meth c H1 locs (cells + 1) (slots + n.toNatClampNeg) ls C (hM.new z1 o1 ⟨_, e1, rfl, (fun z => nomatch z), (fun _ => rfl), ⟨k', comp, hk', (by rw [he, g3, hty]), (fun C2 z => ?_), (fun _ => by rw [← hW.alike.findClass, hty]; exact g1)⟩, ?_, fun j hj => ?_, fun _ => arrV_new _ _ _⟩) z1 hl hL (by omega) (by omega) hq
  · rw [hty] at z
    cases z
    rw [← hW.alike.findClass]
    exact g4
  · show (Array.replicate _ _).size = _
    rw [Array.size_replicate]
  · show (Array.replicate _ _)[j]? = _
    rw [Array.getElem?_replicate, if_pos hj]
theorem xs_ldc (hK : ∀ pc L st M nx cb sb, K pc L st M nx cb sb → XZ E i Z pc L st M nx cb sb) (hd : decode (xcode i) pc = .ok (.ldc idx, 2)) (hr : xlk (xcn i) idx 60 = some row) (h : xstep K KX Rf E pc 2 L st M nx cb sb row) : XZ E i Z pc L st M nx cb sb := by
  rcases xlk_spec hr with ⟨n, tx, rfl, f1⟩ | ⟨v, rfl, f1⟩
  · have kk := hK _ _ _ _ _ _ _ h
    intro g p e s m args below meth c H locs cells slots ls C hM hn hl hL hc hs hq
    have hown := C.2.2.2.2.2.1
    rw [xm_own] at hown
    have z0 : vk_R (xown (xcn i)) idx tx (E.2.2.2 n) E.2.1 := g.2.2.1 (xown (xcn i), idx, tx, n) f1
    have z1 : vk_R (xown (xcn i)) idx tx (E.2.2.2 n) s := vk_R.warm C.2.2.2.2.2.2.2 z0
    exact va_ldcS (own := xown (xcn i)) (tx := tx) (q := E.2.2.2 n) C.1 C.2.1 hown z1 hd (kk g p e s m args below meth c H locs cells slots ls C hM hn hl hL hc hs hq)
  · have kk := hK _ _ _ _ _ _ _ h
    intro g p e s m args below meth c H locs cells slots ls C hM hn hl hL hc hs hq
    have hown := C.2.2.2.2.2.1
    rw [xm_own] at hown
    exact lv_ldc C.1 C.2.1 hown (xword g f1 rfl C.2.2.2.2.2.2.2 args) hd (kk g p e s m args below meth c H locs cells slots ls C hM hn hl hL hc hs hq)
theorem xrecv {E : xE} (g : xglob E) {M : xM} {H : Heap} {s : State} {b ci : Nat} {fs : List Value} {cd : vw_C} (hM : xrep E M H) (hW : E.2.1.WarmedH s.vm) (h : M b = some (.inl (ci, fs))) (f1 : xcl[ci]? = some cd) : ∃ cell : Cell, H[b]? = some cell ∧ cell.vm.isStatics = false ∧ s.vm.findClass cd.1 = some cell.cls := by
  obtain ⟨cell, c1, c2, c3, c4, cd', c5, c6, c7, c8⟩ := hM.2.2 b _ h
  have hKn := u_Kn_moved hW.alike (g.2.1 _ _ f1)
  exact ⟨cell, c1, c2, by rw [c6]; exact hKn.2.1⟩
theorem xs_instanceof (hK : ∀ pc L st M nx cb sb, K pc L st M nx cb sb → XZ E i Z pc L st M nx cb sb) (hd : decode (xcode i) pc = .ok (.instanceof idx, 3)) (hr : xlk (xcn i) idx 61 = some row) (h : xstep K KX Rf E pc 3 L st M nx cb sb row) : XZ E i Z pc L st M nx cb sb := by
  obtain ⟨ci, cd, rfl, f1, f2⟩ := xlk_spec hr
  obtain ⟨a, r, rfl, h⟩ := xA1_spec h
  obtain ⟨fs, g1, h⟩ := xobj_spec h
  have kk := hK _ _ _ _ _ _ _ h
  intro g p e s m args below meth c H locs cells slots ls C hM hn hl hL hc hs hq
  have hown := C.2.2.2.2.2.1
  rw [xm_own] at hown
  exact va_instE C.1 C.2.1 hown (xword g f2 rfl C.2.2.2.2.2.2.2 args) (xrecv g hM C.2.2.2.2.2.2.2 g1 f1) hd (kk g p e s m args below meth c H locs cells slots ls C hM hn hl hL hc hs hq)
theorem xs_checkcast (hK : ∀ pc L st M nx cb sb, K pc L st M nx cb sb → XZ E i Z pc L st M nx cb sb) (hd : decode (xcode i) pc = .ok (.checkcast idx, 3)) (hr : xlk (xcn i) idx 62 = some row) (h : xstep K KX Rf E pc 3 L st M nx cb sb row) : XZ E i Z pc L st M nx cb sb := by
  obtain ⟨ci, cd, rfl, f1, f2⟩ := xlk_spec hr
  obtain ⟨a, r, rfl, h⟩ := xA1_spec h
  obtain ⟨fs, g1, h⟩ := xobj_spec h
  have kk := hK _ _ _ _ _ _ _ h
  intro g p e s m args below meth c H locs cells slots ls C hM hn hl hL hc hs hq
  have hown := C.2.2.2.2.2.1
  rw [xm_own] at hown
  exact va_castE C.1 C.2.1 hown (xword g f2 rfl C.2.2.2.2.2.2.2 args) (xrecv g hM C.2.2.2.2.2.2.2 g1 f1) hd (kk g p e s m args below meth c H locs cells slots ls C hM hn hl hL hc hs hq)
end XL
end XS
end
section
section XS
variable {E : xE} {i : Nat} {Z : List Frame → Array Value → State → State → Prop} {pc : Nat} {L : List (Option Value)} {st : List Value} {M : xM} {nx cb sb : Nat}
theorem xcodeW {E : xE} (g : xglob E) {j n : Nat} (f : xcallee j n) {s : State} (hW : E.2.1.WarmedH s.vm) : ∀ w ∈ [Cond.code (xy j) (xcode j) (xmax j) (xret j)], ∀ (a' : Array Value) (U : State), s.WarmedH U.vm → w.before a' U = true := by
  intro w hw a' U hU
  rw [List.mem_singleton] at hw
  subst hw
  exact xword g f.1 rfl (State.WarmedH.trans hW hU) a'
theorem xcatsum : ∀ {r : List Value}, r.length ≤ 4 → (r.map fun v => v.category).sum ≤ 8 := by
  have h : ∀ (r : List Value), (r.map fun v => v.category).sum ≤ 2 * r.length := by
    intro r
    induction r with
    | nil => simp
    | cons v r ih =>
      have := lv_cat v
      simp only [List.map_cons, List.sum_cons, List.length_cons]
      omega
  intro r hr
  have := h r
  omega
theorem xlm_spec {i : Nat} {o : Option xI} {r : xI} (h : xlm i o = some r) : o = some r ∧ xlmOk i r = true := by
  unfold xlm at h
  obtain ⟨q, h1, h2⟩ := Option.bind_eq_some_iff.mp h
  obtain ⟨h3, h4⟩ := xite_spec h2
  cases h4
  exact ⟨h1, h3⟩
theorem xsel_up {C : String} {y : MethodName} {s : State} {args : Array Value} {n : Nat} (hy : y.cls ≠ "java/lang/invoke/MethodHandle" ∧ y.cls ≠ "java/lang/invoke/VarHandle") (hins : (Cond.instantiable C n).before args s = true) (hsame : (Cond.sameMethod y.cls y.cls y.name y.desc).before args s = true) (hpriv : (Cond.privateMethod y).before args s = true) (hinst : (Cond.instanceMethod y).before args s = true) :
    (Cond.selects C y y).before args s = true := by
  obtain ⟨c, k, hc, hk, -, -, -, -⟩ := Cond.instantiable_spec hins
  obtain ⟨cn, ck, r1, hcn, hck, hni, hf, hn1⟩ := Cond.sameMethod_found hsame
  obtain ⟨mk, methM, hnamed, hmethM, -, -⟩ := Cond.instanceMethod_spec hinst
  have hfound : s.methodFound? y.cls y.name y.desc = some mk := State.methodFound?_of_named hnamed hy
  have hcls : mk.cls = cn := Option.some.inj ((findClass_of_methodNamed hnamed).symm.trans hcn)
  have hsel : selectMethod {} s.vm c mk = .method mk := selectMethod_private hmethM (Cond.privateMethod_at hpriv mk methM hnamed hmethM)
  simp only [Cond.before, Cond.holds, Cond.value, hc, hfound, hnamed, hsel, hcls, hck]
  simp
  exact hni
theorem xselW {E : xE} (g : xglob E) {C : String} {j n : Nat} (f2 : xcallee j n) (f6 : Cond.instanceMethod (xy j) ∈ lw_tbl) (h : Cond.selects C (xy j) (xy j) ∈ lw_tbl ∨ ∃ nn, Cond.instantiable C nn ∈ lw_tbl ∧ Cond.sameMethod (xy j).cls (xy j).cls (xy j).name (xy j).desc ∈ lw_tbl ∧ Cond.privateMethod (xy j) ∈ lw_tbl) {s : State} (hW : E.2.1.WarmedH s.vm) (args : Array Value) : (Cond.selects C (xy j) (xy j)).before args s = true := by
  rcases h with h | ⟨nn, h1, h2, h3⟩
  · exact xword g h rfl hW args
  · exact xmoved rfl hW (xsel_up ⟨f2.2.2.1.1, f2.2.2.1.2.1⟩ (g.1 _ h1) (g.1 _ h2) (g.1 _ h3) (g.1 _ f6)) args
section XM
variable {K KX : Nat → List (Option Value) → List Value → xM → Nat → Nat → Nat → Prop} {Rf : Option Value → xM → Nat → Prop} {idx : Nat} {row : xI}
theorem xs_invokevirtual (hK : ∀ pc L st M nx cb sb, K pc L st M nx cb sb → XZ E i Z pc L st M nx cb sb) (hKX : ∀ pc L st M nx cb sb, KX pc L st M nx cb sb → XZ E i Z pc L st M nx cb sb) (hd : decode (xcode i) pc = .ok (.invokevirtual idx, 3)) (hr : xlm i (xlk (xcn i) idx 70) = some row) (h : xstep K KX Rf E pc 3 L st M nx cb sb row) : XZ E i Z pc L st M nx cb sb := by
  obtain ⟨hr, b1⟩ := xlm_spec hr
  obtain ⟨j, n, ci, cd, rfl, f1, f2, f6, f7, f8⟩ := xlk_spec hr
  obtain ⟨b2, b3, b4⟩ := xlmOk_spec b1 (by dsimp only; decide)
  dsimp only at b2 b3 b4
  dsimp only [xstep] at h
  obtain ⟨b, As, r, rfl, hlen, h1, h2, h3, h4, h5, h⟩ := xD_spec h
  obtain ⟨fs, g1, -⟩ := xobj_spec h1
  intro g p e s m args below meth c H locs cells slots ls C hM hn hl hL hc hs hq
  have hW := C.2.2.2.2.2.2.2
  have hown := C.2.2.2.2.2.1
  rw [xm_own] at hown
  have hMet := xmet g h f2.2.2.2 (by have : As.length + 1 ≤ xmax j := by rw [hlen]; exact b4
                                     simpa using this) (fun v hv => by
    rcases List.mem_cons.mp hv with rfl | hv
    · rfl
    · exact xcat1_spec h2 v hv)
  have hpar : ∀ sig, parseMethodDescriptor (xy j).desc = some sig → n = sig.parameters.length := fun sig hsg => by
    have z := f2.2.2.1.2.2
    rw [hsg] at z
    exact (Option.some.inj z).symm
  have hpv : PreV s H cd.1 b (fun a s => a = (Value.ref b :: As).toArray ∧ E.2.1.WarmedH s.vm ∧ xrep E M s.heap ∧ s.heap.size = nx) As :=
    ⟨fun _ _ _ _ q => q, xrecv g hM hW g1 f1, fun U hU hWU => ⟨rfl, State.WarmedH.trans hW hWU, by rw [hU]; exact hM, by rw [hU]; exact hn⟩⟩
  have hfit : cells + xmc j ≤ (xrm i).cells ∧ slots + xms j ≤ (xrm i).slots := ⟨by show _ ≤ xmc i; omega, by show _ ≤ xms i; omega⟩
  have hsz : ls.size = xmax i := by rw [← hL]; exact hl.1.1
  have run : va_Run p E.1 e (xrm i) s m args below meth c H locs cells slots (xmc j) (xms j) (F0 m pc ls (As.reverse ++ .ref b :: r)) r (fun _ o t => ∃ (v : Option Value) (M' : xM), o = .returned v ∧ xrep E M' t.heap ∧ KX (pc + 3) L (v.toList ++ r) M' t.heap.size (cb - xmc j) (sb - xms j)) (fun q => E.2.1.heap.size ≤ q) := by
    rcases f8 with f8 | ⟨host, f8⟩
    · exact va_runV (Ts := []) (own := xown (xcn i)) (C := cd.1) (n := n) (bytes := xcode j) (maxL := xmax j) (ret := xret j) ⟨C.1, C.2.1, C.2.2.1, hown, (fun w h => by cases h)⟩ hMet ⟨⟨rfl, rfl, b2, b3, xcodeW g f2 hW, List.mem_cons_self, xword g f2.1 rfl hW args, xword g f2.2.1 rfl hW args, ⟨f2.2.2.1.1, f2.2.2.1.2.1⟩, hpar, xword g f8 rfl hW args⟩, xword g f6 rfl hW args, xselW g f2 f6 f7 hW args⟩ hpv rfl hlen hsz rfl (lv_room (xcatsum h3)) hd hfit
    · exact va_runVN (Ts := []) (own := xown (xcn i)) (C := cd.1) (n := n) (bytes := xcode j) (maxL := xmax j) (ret := xret j) ⟨C.1, C.2.1, C.2.2.1, hown, (fun w h => by cases h)⟩ hMet ⟨⟨⟨rfl, rfl, b2, b3, xcodeW g f2 hW, List.mem_cons_self⟩, xword g f2.1 rfl hW args, xword g f2.2.1 rfl hW args, ⟨f2.2.2.1.1, f2.2.2.1.2.1⟩, hpar, xword g f8 rfl hW args⟩, xword g f6 rfl hW args, xselW g f2 f6 f7 hW args⟩ hpv rfl hlen hsz rfl (lv_room (xcatsum h3)) hd hfit
  intro T hT X
  obtain ⟨v, st₀, t, T', Lc, h0, X', hLc, e1, e2, ⟨v', M', hv', hr', hq'⟩, stp⟩ := run T hT X
  cases hv'
  obtain ⟨t2, a1, a2⟩ := hKX _ _ _ _ _ _ _ hq' g p e s m args below meth c t.heap (locs ++ Lc) (cells + xmc j) (slots + xms j) ls C hr' rfl hl hL (by omega) (by omega) (t_lL (free := fun q => E.2.1.heap.size ≤ q) hq hLc) T' e1 X'
  exact ⟨t2, stp t2 a1, a2⟩
theorem xs_invokestatic (hK : ∀ pc L st M nx cb sb, K pc L st M nx cb sb → XZ E i Z pc L st M nx cb sb) (hKX : ∀ pc L st M nx cb sb, KX pc L st M nx cb sb → XZ E i Z pc L st M nx cb sb) (hd : decode (xcode i) pc = .ok (.invokestatic idx, 3)) (hr : xlm i (xlk (xcn i) idx 71) = some row) (h : xstep K KX Rf E pc 3 L st M nx cb sb row) : XZ E i Z pc L st M nx cb sb := by
  obtain ⟨hr, b1⟩ := xlm_spec hr
  obtain ⟨j, n, rfl, f2, f6, f8⟩ := xlk_spec hr
  obtain ⟨b2, b3, b4⟩ := xlmOk_spec b1 (by dsimp only; decide)
  dsimp only at b2 b3 b4
  dsimp only [xstep] at h
  obtain ⟨As, r, rfl, hlen, h2, h3, h4, h5, h⟩ := xDs_spec h
  intro g p e s m args below meth c H locs cells slots ls C hM hn hl hL hc hs hq
  have hW := C.2.2.2.2.2.2.2
  have hown := C.2.2.2.2.2.1
  rw [xm_own] at hown
  have hMet := xmet g h f2.2.2.2 (by rw [hlen]; exact b4) (xcat1_spec h2)
  have hpar : ∀ sig, parseMethodDescriptor (xy j).desc = some sig → n = sig.parameters.length := fun sig hsg => by
    have z := f2.2.2.1.2.2
    rw [hsg] at z
    exact (Option.some.inj z).symm
  have hpv : PreS s H (fun a s => a = As.toArray ∧ E.2.1.WarmedH s.vm ∧ xrep E M s.heap ∧ s.heap.size = nx) As :=
    ⟨fun _ _ _ _ q => q, fun U hU hWU => ⟨rfl, State.WarmedH.trans hW hWU, by rw [hU]; exact hM, by rw [hU]; exact hn⟩⟩
  have hfit : cells + xmc j ≤ (xrm i).cells ∧ slots + xms j ≤ (xrm i).slots := ⟨by show _ ≤ xmc i; omega, by show _ ≤ xms i; omega⟩
  have hsz : ls.size = xmax i := by rw [← hL]; exact hl.1.1
  have run : va_Run p E.1 e (xrm i) s m args below meth c H locs cells slots (xmc j) (xms j) (F0 m pc ls (As.reverse ++ r)) r (fun _ o t => ∃ (v : Option Value) (M' : xM), o = .returned v ∧ xrep E M' t.heap ∧ KX (pc + 3) L (v.toList ++ r) M' t.heap.size (cb - xmc j) (sb - xms j)) (fun q => E.2.1.heap.size ≤ q) := by
    rcases f8 with f8 | ⟨host, f8⟩
    · exact va_runS (Ts := []) (own := xown (xcn i)) (n := n) (bytes := xcode j) (maxL := xmax j) (ret := xret j) ⟨C.1, C.2.1, C.2.2.1, hown, (fun w h => by cases h)⟩ hMet ⟨⟨rfl, rfl, b2, b3, xcodeW g f2 hW, List.mem_cons_self, xword g f2.1 rfl hW args, xword g f2.2.1 rfl hW args, ⟨f2.2.2.1.1, f2.2.2.1.2.1⟩, hpar, xword g f8 rfl hW args⟩, xword g f6 rfl hW args⟩ hpv rfl hlen hsz rfl (lv_room (xcatsum h3)) hd hfit
    · exact va_runSN (Ts := []) (own := xown (xcn i)) (n := n) (bytes := xcode j) (maxL := xmax j) (ret := xret j) ⟨C.1, C.2.1, C.2.2.1, hown, (fun w h => by cases h)⟩ hMet ⟨⟨⟨rfl, rfl, b2, b3, xcodeW g f2 hW, List.mem_cons_self⟩, xword g f2.1 rfl hW args, xword g f2.2.1 rfl hW args, ⟨f2.2.2.1.1, f2.2.2.1.2.1⟩, hpar, xword g f8 rfl hW args⟩, xword g f6 rfl hW args, trivial⟩ hpv rfl hlen hsz rfl (lv_room (xcatsum h3)) hd hfit
  intro T hT X
  obtain ⟨v, st₀, t, T', Lc, h0, X', hLc, e1, e2, ⟨v', M', hv', hr', hq'⟩, stp⟩ := run T hT X
  cases hv'
  obtain ⟨t2, a1, a2⟩ := hKX _ _ _ _ _ _ _ hq' g p e s m args below meth c t.heap (locs ++ Lc) (cells + xmc j) (slots + xms j) ls C hr' rfl hl hL (by omega) (by omega) (t_lL (free := fun q => E.2.1.heap.size ≤ q) hq hLc) T' e1 X'
  exact ⟨t2, stp t2 a1, a2⟩
theorem xs_invokespecial (hK : ∀ pc L st M nx cb sb, K pc L st M nx cb sb → XZ E i Z pc L st M nx cb sb) (hKX : ∀ pc L st M nx cb sb, KX pc L st M nx cb sb → XZ E i Z pc L st M nx cb sb) (hd : decode (xcode i) pc = .ok (.invokespecial idx, 3)) (hr : xlm i (xlk (xcn i) idx 72) = some row) (h : xstep K KX Rf E pc 3 L st M nx cb sb row) : XZ E i Z pc L st M nx cb sb := by
  obtain ⟨hr, b1⟩ := xlm_spec hr
  rcases xlk_spec hr with ⟨rfl, f1, f2, f3⟩ | ⟨j, n, rfl, f2, f4, f5, f6, f8⟩
  · obtain ⟨a, r, rfl, h1, h⟩ := xA1_spec h
    have kk := hK _ _ _ _ _ _ _ h
    obtain ⟨b2, b3⟩ := xlmOk_obj b1
    intro g p e s m args below meth c H locs cells slots ls C hM hn hl hL hc hs hq
    have hW := C.2.2.2.2.2.2.2
    have hown := C.2.2.2.2.2.1
    rw [xm_own] at hown
    have hsz : ls.size = xmax i := by rw [← hL]; exact hl.1.1
    have h8 := xcatsum h1
    exact W.objInit C.1 C.2.1 hown (xword g f1 rfl hW args) (xword g f2 rfl hW args) (xword g f3 rfl hW args) rfl (hsz.trans C.2.2.1.symm) rfl hd b2 (by show 2 * 0 + _ + 12 ≤ xlo i; omega) (kk g p e s m args below meth c H locs cells slots ls C hM hn hl hL hc hs hq)
  obtain ⟨b2, b3, b4⟩ := xlmOk_spec b1 (by dsimp only; decide)
  dsimp only at b2 b3 b4
  dsimp only [xstep] at h
  obtain ⟨b, As, r, rfl, hlen, h2, h3, h4, h5, h⟩ := xD_spec h
  intro g p e s m args below meth c H locs cells slots ls C hM hn hl hL hc hs hq
  have hW := C.2.2.2.2.2.2.2
  have hown := C.2.2.2.2.2.1
  rw [xm_own] at hown
  have hMet := xmet g h f2.2.2.2 (by have : As.length + 1 ≤ xmax j := by rw [hlen]; exact b4
                                     simpa using this) (fun v hv => by
    rcases List.mem_cons.mp hv with rfl | hv
    · rfl
    · exact xcat1_spec h2 v hv)
  have hpar : ∀ sig, parseMethodDescriptor (xy j).desc = some sig → n = sig.parameters.length := fun sig hsg => by
    have z := f2.2.2.1.2.2
    rw [hsg] at z
    exact (Option.some.inj z).symm
  have hpv : PreS s H (fun a s => a = (Value.ref b :: As).toArray ∧ E.2.1.WarmedH s.vm ∧ xrep E M s.heap ∧ s.heap.size = nx) (.ref b :: As) :=
    ⟨fun _ _ _ _ q => q, fun U hU hWU => ⟨rfl, State.WarmedH.trans hW hWU, by rw [hU]; exact hM, by rw [hU]; exact hn⟩⟩
  have hfit : cells + xmc j ≤ (xrm i).cells ∧ slots + xms j ≤ (xrm i).slots := ⟨by show _ ≤ xmc i; omega, by show _ ≤ xms i; omega⟩
  have hsz : ls.size = xmax i := by rw [← hL]; exact hl.1.1
  rw [f5] at hMet
  have hcw : ∀ w ∈ [Cond.code (xy j) (xcode j) (xmax j) none], ∀ (a' : Array Value) (U : State), s.WarmedH U.vm → w.before a' U = true := by
    have z := xcodeW g f2 hW
    rw [f5] at z
    exact z
  have hcd : (Cond.code (xy j) (xcode j) (xmax j) none).before args s = true := by
    have z := xword g f2.1 rfl hW args
    rw [f5] at z
    exact z
  have run : va_Run p E.1 e (xrm i) s m args below meth c H locs cells slots (xmc j) (xms j) (F0 m pc ls (As.reverse ++ .ref b :: r)) r (fun _ o t => ∃ (v : Option Value) (M' : xM), o = .returned v ∧ xrep E M' t.heap ∧ KX (pc + 3) L (v.toList ++ r) M' t.heap.size (cb - xmc j) (sb - xms j)) (fun q => E.2.1.heap.size ≤ q) := by
    rcases f8 with f8 | ⟨host, f8⟩
    · exact va_runI (Ts := []) (own := xown (xcn i)) (n := n) (bytes := xcode j) (maxL := xmax j) ⟨C.1, C.2.1, C.2.2.1, hown, (fun w h => by cases h)⟩ hMet ⟨⟨rfl, rfl, b2, b3, hcw, List.mem_cons_self, hcd, xword g f2.2.1 rfl hW args, ⟨f2.2.2.1.1, f2.2.2.1.2.1⟩, hpar, xword g f8 rfl hW args⟩, f4, xword g f6 rfl hW args⟩ hpv rfl hlen hsz rfl (lv_room (xcatsum h3)) hd hfit
    · exact va_runIN (Ts := []) (own := xown (xcn i)) (n := n) (bytes := xcode j) (maxL := xmax j) ⟨C.1, C.2.1, C.2.2.1, hown, (fun w h => by cases h)⟩ hMet ⟨⟨⟨rfl, rfl, b2, b3, hcw, List.mem_cons_self⟩, hcd, xword g f2.2.1 rfl hW args, ⟨f2.2.2.1.1, f2.2.2.1.2.1⟩, hpar, xword g f8 rfl hW args⟩, f4, xword g f6 rfl hW args⟩ hpv rfl hlen hsz rfl (lv_room (xcatsum h3)) hd hfit
  intro T hT X
  obtain ⟨v, st₀, t, T', Lc, h0, X', hLc, e1, e2, ⟨v', M', hv', hr', hq'⟩, stp⟩ := run T hT X
  cases hv'
  obtain ⟨t2, a1, a2⟩ := hKX _ _ _ _ _ _ _ hq' g p e s m args below meth c t.heap (locs ++ Lc) (cells + xmc j) (slots + xms j) ls C hr' rfl hl hL (by omega) (by omega) (t_lL (free := fun q => E.2.1.heap.size ≤ q) hq hLc) T' e1 X'
  exact ⟨t2, stp t2 a1, a2⟩
end XM
section XO
variable {K KX : Nat → List (Option Value) → List Value → xM → Nat → Nat → Nat → Prop} {Rf : Option Value → xM → Nat → Prop} {idx : Nat} {row : xI}
theorem xs_getstaticR (hK : ∀ pc L st M nx cb sb, K pc L st M nx cb sb → XZ E i Z pc L st M nx cb sb) (hd : decode (xcode i) pc = .ok (.getstatic idx, 3)) (hr : xlk (xcn i) idx 152 = some row) (h : xstep K KX Rf E pc 3 L st M nx cb sb row) : XZ E i Z pc L st M nx cb sb := by
  obtain ⟨rfl, f2⟩ := xlk_spec hr
  intro g p e s m args below meth c H locs cells slots ls C hM hn hl hL hc hs hq
  have hW := C.2.2.2.2.2.2.2
  have hown := C.2.2.2.2.2.1
  rw [xm_own] at hown
  have kk := fun o => hK _ _ _ _ _ _ _ (h o) g p e s m args below meth c H locs cells slots ls C hM hn hl hL hc hs hq
  rcases g.2.2.2.2 with z | ⟨t, z⟩
  · obtain ⟨cf, kf, fi, f, a, cell, h1, h2, h3, h4, h5, h6, h7, h8⟩ := z.moved hW.alike
    exact W.gets C.1 C.2.1 hown (xword g f2 rfl hW args) h1 h2 h3 h4 (by rw [hM.2.1 a (Nat.not_le.mp h8)]; exact h5) (fun z => by rw [z] at h6; cases h6) h7 rfl hd (kk none)
  · obtain ⟨cf, kf, fi, f, a, cell, h1, h2, h3, h4, h5, h6, h7, h8⟩ := z.moved hW.alike
    exact W.gets C.1 C.2.1 hown (xword g f2 rfl hW args) h1 h2 h3 h4 (by rw [hM.2.1 a (Nat.not_le.mp h8)]; exact h5) (fun z => by rw [z] at h6; cases h6) h7 rfl hd (kk (some t))
theorem xs_castA (hK : ∀ pc L st M nx cb sb, K pc L st M nx cb sb → XZ E i Z pc L st M nx cb sb) (hd : decode (xcode i) pc = .ok (.checkcast idx, 3)) (hr : xlk (xcn i) idx 162 = some row) (h : xstep K KX Rf E pc 3 L st M nx cb sb row) : XZ E i Z pc L st M nx cb sb := by
  obtain ⟨rfl, f2⟩ := xlk_spec hr
  obtain ⟨a, r, rfl, h0, h⟩ := xA1_spec h
  obtain ⟨t, n, f, g1, rfl, h⟩ := xarr_spec h
  have kk := hK _ _ _ _ _ _ _ h
  intro g p e s m args below meth c H locs cells slots ls C hM hn hl hL hc hs hq
  have hW := C.2.2.2.2.2.2.2
  have hown := C.2.2.2.2.2.1
  rw [xm_own] at hown
  obtain ⟨cell, c1, c2, c3, c4, ⟨k, comp, k1, k2, k3, k4⟩, c6, c7, c8⟩ := hM.2.2 a _ g1
  have hnm : s.vm.findClass "[B" = some cell.cls := by rw [hW.alike.findClass]; exact k4 h0
  exact va_castE C.1 C.2.1 hown (xword g f2 rfl hW args) ⟨cell, c1, c2, hnm⟩ hd (kk g p e s m args below meth c H locs cells slots ls C hM hn hl hL hc hs hq)
theorem xs_clone (hK : ∀ pc L st M nx cb sb, K pc L st M nx cb sb → XZ E i Z pc L st M nx cb sb) (hd : decode (xcode i) pc = .ok (.invokevirtual idx, 3)) (hr : xls i (xlk (xcn i) idx 180) = some row) (h : xstep K KX Rf E pc 3 L st M nx cb sb row) : XZ E i Z pc L st M nx cb sb := by
  obtain ⟨⟨b1, b2⟩, hr⟩ := xite_spec hr
  obtain ⟨rfl, f1, f2, f3, f4, f5, f6⟩ := xlk_spec hr
  obtain ⟨a, r, rfl, h3, h0, h⟩ := xA1_spec h
  obtain ⟨t, n, f, g1, rfl, h4, h5, h6, h⟩ := xarr_spec h
  have kk := hK _ _ _ _ _ _ _ h
  intro g p e s m args below meth c H locs cells slots ls C hM hn hl hL hc hs hq
  have hW := C.2.2.2.2.2.2.2
  have hown := C.2.2.2.2.2.1
  rw [xm_own] at hown
  obtain ⟨cell, c1, c2, c3, c4, ⟨k, comp, k1, k2, k3, k4⟩, c6, c7, c8⟩ := hM.2.2 a _ g1
  have hnm : s.vm.findClass "[B" = some cell.cls := by rw [hW.alike.findClass]; exact k4 h0
  have hsz : ls.size = xmax i := by rw [← hL]; exact hl.1.1
  have hvm : cell.vm = .none := c4 h0
  have hcE : ({ cls := cell.cls, slots := cell.slots } : Cell) = cell := by
    rw [c8 h0]
    rfl
  obtain ⟨k', hk', he⟩ := hW.alike.2.2 _ _ k1
  obtain ⟨cA0, cC0, d1, d2, d3⟩ := Cond.castable_spec (xword g f6 rfl hW args)
  cases hnm.symm.trans d1
  subst hn
  intro T hT X
  obtain ⟨k2', hk2', he2⟩ := X.warmed.alike.2.2 _ _ hk'
  have c6 : cell.slots.size = n := c6
  have h8 := xcatsum h3
  obtain ⟨vm', X', st⟩ := X.cloneArray C.1 hown (xword g f1 rfl hW args) (xword g f2 rfl hW args) (xword g f3 rfl hW args) (xword g f4 rfl hW args) (xword g f5 rfl hW args) (a := a) (cell := cell) (by rw [hT]; exact c1) (fun q z => by rw [z] at c2; cases c2) c3 hnm d2 d3
    (fun q v hv => by
      have hk3 : T.vm.classes[cell.cls]? = some k2' := hk2'
      have hkd : k2'.kind = .array comp (.byte) := by rw [he2]; show k'.kind = _; rw [he]; exact k2
      have hqn : q < n := by
        have := (Array.getElem?_eq_some_iff.mp hv).1
        omega
      have hv2 : v = f q := by
        rw [c7 q hqn] at hv
        exact (Option.some.inj hv).symm
      rw [hv2]
      simpa [State.fitsSlot, State.slotType?, hk3, hkd] using h6 q hqn)
    (g := F0 m pc ls (.ref a :: r)) rfl (hsz.trans C.2.2.1.symm) rfl (by rw [C.2.1]; exact hd) b1 (by show 2 * 0 + _ + 14 ≤ xlo i; omega) (by show _ ≤ xmc i; omega) (by show _ ≤ xms i; rw [c6]; omega) (hloader := Vm.clonesLoader_of_array hk' (by rw [he]; exact k2))
  rw [hcE, c6] at X'
  generalize hH1 : H.push cell = H1
  have z1 : H1.size = H.size + 1 := by rw [← hH1, Array.size_push]
  have e1 : H1[H.size]? = some cell := by rw [← hH1, Array.getElem?_push_size]
  have o1 : ∀ q : Nat, q < H.size → H1[q]? = H[q]? := fun q hq => by rw [← hH1, Array.getElem?_push, if_neg (Nat.ne_of_lt hq)]
  obtain ⟨t2, a1, a2⟩ := kk g p e s m args below meth c H1 locs (cells + 1) (slots + n) ls C (hM.new z1 o1 ⟨cell, e1, c2, c3, fun _ => hvm, ⟨k, comp, k1, k2, k3, fun _ => k4 h0⟩, c6, c7, fun _ => c8 h0⟩) z1 hl hL (by omega) (by omega) hq ((T.setVm vm').pushCell cell) (by rw [← hH1, ← hT]; rfl) X'
  refine ⟨t2, st t2 ?_, a2⟩
  rw [hcE, hT]
  exact a1
theorem xs_staticS (hK : ∀ pc L st M nx cb sb, K pc L st M nx cb sb → XZ E i Z pc L st M nx cb sb) (hd : decode (xcode i) pc = .ok (.invokestatic idx, 3)) (hr : xls i (xlk (xcn i) idx 171) = some row) (h : xstep K KX Rf E pc 3 L st M nx cb sb row) : XZ E i Z pc L st M nx cb sb := by
  obtain ⟨⟨b1, b2⟩, hr⟩ := xite_spec hr
  rcases xlk_spec hr with ⟨rfl, f1, f2, f3, f4⟩ | ⟨rfl, f1, f2, f3, f4⟩ | ⟨rfl, f1, f2, f3, f4⟩
  · obtain ⟨x, y, r, rfl, h3, h⟩ := xI2_spec h
    have kk := hK _ _ _ _ _ _ _ h
    intro g p e s m args below meth c H locs cells slots ls C hM hn hl hL hc hs hq
    have hW := C.2.2.2.2.2.2.2
    have hown := C.2.2.2.2.2.1
    rw [xm_own] at hown
    have hsz : ls.size = xmax i := by rw [← hL]; exact hl.1.1
    have h8 := xcatsum h3
    exact va_mmax C.1 C.2.1 (C.2.2.1.trans hsz.symm) hown (xword g f1 rfl hW args) (xword g f2 rfl hW args) (xword g f3 rfl hW args) (xword g f4 rfl hW args) b1 (by show _ ≤ xlo i; omega) (by show _ ≤ xmc i; omega) (by show _ ≤ xms i; omega) hd (kk g p e s m args below meth c H locs cells slots ls C hM hn hl hL hc hs hq)
  · obtain ⟨x, y, r, rfl, h3, h⟩ := xI2_spec h
    have kk := hK _ _ _ _ _ _ _ h
    intro g p e s m args below meth c H locs cells slots ls C hM hn hl hL hc hs hq
    have hW := C.2.2.2.2.2.2.2
    have hown := C.2.2.2.2.2.1
    rw [xm_own] at hown
    have hsz : ls.size = xmax i := by rw [← hL]; exact hl.1.1
    have h8 := xcatsum h3
    exact va_mmin C.1 C.2.1 (C.2.2.1.trans hsz.symm) hown (xword g f1 rfl hW args) (xword g f2 rfl hW args) (xword g f3 rfl hW args) (xword g f4 rfl hW args) b1 (by show _ ≤ xlo i; omega) (by show _ ≤ xmc i; omega) (by show _ ≤ xms i; omega) hd (kk g p e s m args below meth c H locs cells slots ls C hM hn hl hL hc hs hq)
  · obtain ⟨n, dp, d, sp, a0, r, rfl, h3, h0, ⟨h1, h2, h5⟩, h⟩ := xCp_spec h
    obtain ⟨t0, n0, f, g1, h⟩ := xarr_spec h
    obtain ⟨t1, n1, gf, g2, rfl, rfl, h6, h7, h9, h⟩ := xarr_spec h
    have kk := hK _ _ _ _ _ _ _ h
    intro g p e s m args below meth c H locs cells slots ls C hM hn hl hL hc hs hq
    have hW := C.2.2.2.2.2.2.2
    have hown := C.2.2.2.2.2.1
    rw [xm_own] at hown
    have hsz : ls.size = xmax i := by rw [← hL]; exact hl.1.1
    have h8 := xcatsum h3
    have nn : ∀ z : Int32, ¬ z < 0 → z.toInt = (z.toNatClampNeg : Int) := by
      intro z hz
      have hz0 : (0 : Int) ≤ z.toInt := by
        have := Int32.not_lt.mp hz
        simpa using Int32.le_iff_toInt_le.mp this
      show z.toInt = ((z.toInt.toNat : Nat) : Int)
      omega
    obtain ⟨cs, c1, c2, c3, c4, ⟨k, comp, k1, k2, k3, k4⟩, c6, c7, c8⟩ := hM.2.2 a0 _ g1
    obtain ⟨cd, e1, e2, e3, e4, ⟨k', comp', l1, l2, l3, l4⟩, e6, e7, e8⟩ := hM.2.2 d _ g2
    obtain ⟨ka, hka, hea⟩ := hW.alike.2.2 _ _ k1
    obtain ⟨kb, hkb, heb⟩ := hW.alike.2.2 _ _ l1
    dsimp only at c6 c7 e6 e7
    have z9 : nativeFrameWords "java/lang/System" "arraycopy" 5 + 11 ≤ 30 := by decide
    intro T hT X
    obtain ⟨vm', X', step⟩ := X.arraycopy C.1 hown (xword g f1 rfl hW args) (xword g f2 rfl hW args) (xword g f3 rfl hW args) (xword g f4 rfl hW args) (src := a0) (dst := d) (cs := cs) (cd := cd) (srcPos := sp) (destPos := dp) (n := n) (by rw [hT]; exact c1) (by rw [hT]; exact e1)
      (fun q z => by rw [z] at c2; cases c2) (fun q z => by rw [z] at e2; cases e2) c3 e3 hka hkb (by rw [hea]; exact k2) (by rw [heb]; exact l2) (by simp [refKind]) h1 h2 h5
      (by rw [nn sp h1, nn n h5]; omega)
      (by rw [nn dp h2, nn n h5]; omega)
      (fun vm₁ _ q hq => by
        have e : cs.slots.getD (sp.toNatClampNeg + q) .null = f (sp.toNatClampNeg + q) := by
          rw [Array.getD_eq_getD_getElem?, c7 _ (by omega)]
          rfl
        have hb9 := h9 q hq
        refine ⟨?_, ?_⟩
        · rw [e]
          exact hb9
        · rw [e]
          generalize hv9 : f (sp.toNatClampNeg + q) = v9 at hb9
          cases v9 <;> first | exact trivial | (cases hb9))
      (g := F0 m pc ls (.int n :: .int dp :: .ref d :: .int sp :: .ref a0 :: r)) rfl (hsz.trans C.2.2.1.symm) (rest := r) rfl (by rw [C.2.1]; exact hd) b1 (by show 2 * 0 + _ + (nativeFrameWords "java/lang/System" "arraycopy" 5 + 11) ≤ xlo i; omega)
    have e9 : copied cs cd sp dp n = arrV cd.cls n1 (va_cpy f gf sp.toNatClampNeg dp.toNatClampNeg n.toNatClampNeg) := by
      have z := va_copiedX (fun z : Value => z) cs cd.cls (n0 := n0) (n1 := n1) (sp := sp.toNatClampNeg) (dp := dp.toNatClampNeg) (n := n.toNatClampNeg) f gf c7 h6
      rw [← z]
      show cd.storeRun _ _ = _
      congr 1
      exact e8 h0
    rw [e9] at X' step
    have hl9 : d < H.size := (Array.getElem?_eq_some_iff.mp e1).1
    have hheap : ((T.setVm vm').setCell d (arrV cd.cls n1 (va_cpy f gf sp.toNatClampNeg dp.toNatClampNeg n.toNatClampNeg))).heap = H.setIfInBounds d (arrV cd.cls n1 (va_cpy f gf sp.toNatClampNeg dp.toNatClampNeg n.toNatClampNeg)) := by rw [← hT]; rfl
    obtain ⟨t2, a1, a2⟩ := kk g p e s m args below meth c _ _ cells slots ls C (hM.put h0 (by simp) (fun q hq => by simp [Array.getElem?_setIfInBounds, Ne.symm hq]) ⟨arrV cd.cls n1 (va_cpy f gf sp.toNatClampNeg dp.toNatClampNeg n.toNatClampNeg), by simp [Array.getElem?_setIfInBounds, hl9], rfl, (fun z => nomatch z), (fun _ => rfl), ⟨k', comp', l1, l2, l3, l4⟩, arrV_size _ _ _, fun j hj => arrV_read _ _ hj, fun _ => rfl⟩) (by simp; exact hn) hl hL hc hs (t_lL (free := fun q => E.2.1.heap.size ≤ q) hq (fun q h => by
      obtain ⟨z, -, hz⟩ := List.mem_map.mp h
      rw [← hz]
      exact h0)) _ hheap X'
    exact ⟨t2, step t2 a1, a2⟩
theorem xs_super (hK : ∀ pc L st M nx cb sb, K pc L st M nx cb sb → XZ E i Z pc L st M nx cb sb) (hKX : ∀ pc L st M nx cb sb, KX pc L st M nx cb sb → XZ E i Z pc L st M nx cb sb) (hd : decode (xcode i) pc = .ok (.invokespecial idx, 3)) (hr : xlm i (xlk (xcn i) idx 172) = some row) (h : xstep K KX Rf E pc 3 L st M nx cb sb row) : XZ E i Z pc L st M nx cb sb := by
  obtain ⟨hr, b1⟩ := xlm_spec hr
  obtain ⟨j, n, ci, cd, rfl, f1, f2, f3, f4, f5, f6, f7⟩ := xlk_spec hr
  obtain ⟨b2, b3, b4⟩ := xlmOk_spec b1 (by dsimp only; decide)
  dsimp only at b2 b3 b4
  dsimp only [xstep] at h
  obtain ⟨b, As, r, rfl, hlen, h1, h2, h3, h4, h5, h⟩ := xD_spec h
  obtain ⟨fs, g1, -⟩ := xobj_spec h1
  intro g p e s m args below meth c H locs cells slots ls C hM hn hl hL hc hs hq
  have hW := C.2.2.2.2.2.2.2
  have hown := C.2.2.2.2.2.1
  rw [xm_own] at hown
  have hMet := xmet g h f2.2.2.2 (by have : As.length + 1 ≤ xmax j := by rw [hlen]; exact b4
                                     simpa using this) (fun v hv => by
    rcases List.mem_cons.mp hv with rfl | hv
    · rfl
    · exact xcat1_spec h2 v hv)
  have hpar : ∀ sig, parseMethodDescriptor (xy j).desc = some sig → n = sig.parameters.length := fun sig hsg => by
    have z := f2.2.2.1.2.2
    rw [hsg] at z
    exact (Option.some.inj z).symm
  have hpv : PreV s H cd.1 b (fun a s => a = (Value.ref b :: As).toArray ∧ E.2.1.WarmedH s.vm ∧ xrep E M s.heap ∧ s.heap.size = nx) As :=
    ⟨fun _ _ _ _ q => q, xrecv g hM hW g1 f1, fun U hU hWU => ⟨rfl, State.WarmedH.trans hW hWU, by rw [hU]; exact hM, by rw [hU]; exact hn⟩⟩
  have hfit : cells + xmc j ≤ (xrm i).cells ∧ slots + xms j ≤ (xrm i).slots := ⟨by show _ ≤ xmc i; omega, by show _ ≤ xms i; omega⟩
  have hsz : ls.size = xmax i := by rw [← hL]; exact hl.1.1
  have run : va_Run p E.1 e (xrm i) s m args below meth c H locs cells slots (xmc j) (xms j) (F0 m pc ls (As.reverse ++ .ref b :: r)) r (fun _ o t => ∃ (v : Option Value) (M' : xM), o = .returned v ∧ xrep E M' t.heap ∧ KX (pc + 3) L (v.toList ++ r) M' t.heap.size (cb - xmc j) (sb - xms j)) (fun q => E.2.1.heap.size ≤ q) := by
    exact va_runSU (Ts := []) (own := xown (xcn i)) (C := cd.1) (n := n) (bytes := xcode j) (maxL := xmax j) (ret := xret j) (u_Kn_moved hW.alike (g.2.1 _ _ f1)).2 ⟨C.1, C.2.1, C.2.2.1, hown, (fun w h => by cases h)⟩ hMet ⟨⟨rfl, rfl, b2, b3, xcodeW g f2 hW, List.mem_cons_self⟩, xword g f4 rfl hW args, xword g f5 rfl hW args, xword g f6 rfl hW args, xword g f7 rfl hW args, xword g f2.2.1 rfl hW args, xword g f2.1 rfl hW args, f3, hpar⟩ hpv rfl hlen hsz rfl (lv_room (xcatsum h3)) hd hfit
  intro T hT X
  obtain ⟨v, st₀, t, T', Lc, h0, X', hLc, e1, e2, ⟨v', M', hv', hr', hq'⟩, stp⟩ := run T hT X
  cases hv'
  obtain ⟨t2, a1, a2⟩ := hKX _ _ _ _ _ _ _ hq' g p e s m args below meth c t.heap (locs ++ Lc) (cells + xmc j) (slots + xms j) ls C hr' rfl hl hL (by omega) (by omega) (t_lL (free := fun q => E.2.1.heap.size ≤ q) hq hLc) T' e1 X'
  exact ⟨t2, stp t2 a1, a2⟩
theorem xs_override (hK : ∀ pc L st M nx cb sb, K pc L st M nx cb sb → XZ E i Z pc L st M nx cb sb) (hKX : ∀ pc L st M nx cb sb, KX pc L st M nx cb sb → XZ E i Z pc L st M nx cb sb) (hd : decode (xcode i) pc = .ok (.invokevirtual idx, 3)) (hr : xlm i (xlk (xcn i) idx 170) = some row) (h : xstep K KX Rf E pc 3 L st M nx cb sb row) : XZ E i Z pc L st M nx cb sb := by
  obtain ⟨hr, b1⟩ := xlm_spec hr
  obtain ⟨j, n, ci, cd, x, b0, m0, r0, rfl, f1, f2, f3, f4, f5, f6, f7, f8, f9, f10⟩ := xlk_spec hr
  obtain ⟨b2, b3, b4⟩ := xlmOk_spec b1 (by dsimp only; decide)
  dsimp only at b2 b3 b4
  dsimp only [xstep] at h
  obtain ⟨b, As, r, rfl, hlen, h1, h2, h3, h4, h5, h⟩ := xD_spec h
  obtain ⟨fs, g1, -⟩ := xobj_spec h1
  intro g p e s m args below meth c H locs cells slots ls C hM hn hl hL hc hs hq
  have hW := C.2.2.2.2.2.2.2
  have hown := C.2.2.2.2.2.1
  rw [xm_own] at hown
  have hMet := xmet g h f2.2.2.2 (by have : As.length + 1 ≤ xmax j := by rw [hlen]; exact b4
                                     simpa using this) (fun v hv => by
    rcases List.mem_cons.mp hv with rfl | hv
    · rfl
    · exact xcat1_spec h2 v hv)
  have hpar : ∀ sig, parseMethodDescriptor (xy j).desc = some sig → n = sig.parameters.length := fun sig hsg => by
    have z := f2.2.2.1.2.2
    rw [hsg] at z
    exact (Option.some.inj z).symm
  have hpv : PreV s H cd.1 b (fun a s => a = (Value.ref b :: As).toArray ∧ E.2.1.WarmedH s.vm ∧ xrep E M s.heap ∧ s.heap.size = nx) As :=
    ⟨fun _ _ _ _ q => q, xrecv g hM hW g1 f1, fun U hU hWU => ⟨rfl, State.WarmedH.trans hW hWU, by rw [hU]; exact hM, by rw [hU]; exact hn⟩⟩
  have hfit : cells + xmc j ≤ (xrm i).cells ∧ slots + xms j ≤ (xrm i).slots := ⟨by show _ ≤ xmc i; omega, by show _ ≤ xms i; omega⟩
  have hsz : ls.size = xmax i := by rw [← hL]; exact hl.1.1
  have run : va_Run p E.1 e (xrm i) s m args below meth c H locs cells slots (xmc j) (xms j) (F0 m pc ls (As.reverse ++ .ref b :: r)) r (fun _ o t => ∃ (v : Option Value) (M' : xM), o = .returned v ∧ xrep E M' t.heap ∧ KX (pc + 3) L (v.toList ++ r) M' t.heap.size (cb - xmc j) (sb - xms j)) (fun q => E.2.1.heap.size ≤ q) := by
    have hpx : ∀ sig, parseMethodDescriptor x.desc = some sig → n = sig.parameters.length := fun sig hsg => by
      have z := f10
      rw [hsg] at z
      exact (Option.some.inj z).symm
    exact va_runU (Ts := []) (own := xown (xcn i)) (C := cd.1) (owner := x.cls) (x := x) (n := n) (bytes := xcode j) (maxL := xmax j) (ret := xret j) ⟨C.1, C.2.1, C.2.2.1, hown, (fun w h => by cases h)⟩ hMet ⟨⟨rfl, rfl, b2, b3, xcodeW g f2 hW, List.mem_cons_self⟩, xword g f2.1 rfl hW args, xword g f2.2.1 rfl hW args, f9, hpx, xword g f3 rfl hW args, xword g f4 rfl hW args, va_Decl.of (xword g f5 rfl hW args) (xword g f6 rfl hW args), xword g f7 rfl hW args, xword g f8 rfl hW args⟩ hpv rfl hlen hsz rfl (lv_room (xcatsum h3)) hd hfit
  intro T hT X
  obtain ⟨v, st₀, t, T', Lc, h0, X', hLc, e1, e2, ⟨v', M', hv', hr', hq'⟩, stp⟩ := run T hT X
  cases hv'
  obtain ⟨t2, a1, a2⟩ := hKX _ _ _ _ _ _ _ hq' g p e s m args below meth c t.heap (locs ++ Lc) (cells + xmc j) (slots + xms j) ls C hr' rfl hl hL (by omega) (by omega) (t_lL (free := fun q => E.2.1.heap.size ≤ q) hq hLc) T' e1 X'
  exact ⟨t2, stp t2 a1, a2⟩
end XO
end XS
end
section
section XS
variable {E : xE} {i : Nat} {Z : List Frame → Array Value → State → State → Prop} {pc : Nat} {L : List (Option Value)} {st : List Value} {M : xM} {nx cb sb : Nat}
theorem xstep_ok {K KX : Nat → List (Option Value) → List Value → xM → Nat → Nat → Nat → Prop} {Rf : Option Value → xM → Nat → Prop}
    (hK : ∀ pc L st M nx cb sb, K pc L st M nx cb sb → XZ E i Z pc L st M nx cb sb) (hKX : ∀ pc L st M nx cb sb, KX pc L st M nx cb sb → XZ E i Z pc L st M nx cb sb)
    (hR : ∀ pc L v M nx cb sb ins, decode (xcode i) pc = .ok (ins, 1) → xretI i ins v → Rf v M nx → XZ E i Z pc L v.toList M nx cb sb)
    {ro : xI × Nat} (ht : xtab i pc = some ro) (h : xstep K KX Rf E pc ro.2 L st M nx cb sb ro.1) : XZ E i Z pc L st M nx cb sb := by
  obtain ⟨ins, hd, hr⟩ := xtab_spec ht
  obtain ⟨row, len⟩ := ro
  dsimp only at hd hr h
  cases ins with
  | iconst n =>
    obtain ⟨rfl, rfl⟩ := xln_spec hr
    exact XZ.go (fun hx hb _ k => lv_iconst hx hb hd rfl k) (hK _ _ _ _ _ _ _ h)
  | bipush n =>
    obtain ⟨rfl, rfl⟩ := xln_spec hr
    exact XZ.go (fun hx hb _ k => lv_bipush hx hb hd rfl k) (hK _ _ _ _ _ _ _ h)
  | sipush n =>
    obtain ⟨rfl, rfl⟩ := xln_spec hr
    exact XZ.go (fun hx hb _ k => lv_sipush hx hb hd rfl k) (hK _ _ _ _ _ _ _ h)
  | aconst_null =>
    obtain ⟨rfl, rfl⟩ := xln_spec hr
    exact XZ.go (fun hx hb _ k => lv_null hx hb hd k) (hK _ _ _ _ _ _ _ h)
  | iload_n n =>
    obtain ⟨rfl, rfl⟩ := xln_spec hr
    obtain ⟨x, h1, h⟩ := xlocI_spec h
    exact XZ.go (fun hx hb hl k => lv_iload_n hx hb hd rfl (hl.at h1) k) (hK _ _ _ _ _ _ _ h)
  | iload n =>
    obtain ⟨rfl, rfl⟩ := xln_spec hr
    obtain ⟨x, h1, h⟩ := xlocI_spec h
    exact XZ.go (fun hx hb hl k => lv_iload hx hb hd (hl.at h1) k) (hK _ _ _ _ _ _ _ h)
  | aload_n n =>
    obtain ⟨rfl, rfl⟩ := xln_spec hr
    have h : xlocA L _ (fun v => K _ L (v :: st) M nx cb sb) := h
    rcases xlocA_spec h with ⟨a, h1, h⟩ | ⟨h1, h⟩
    · exact XZ.go (fun hx hb hl k => lv_aload_n hx hb hd rfl (hl.at h1) k) (hK _ _ _ _ _ _ _ h)
    · exact XZ.go (fun hx hb hl k => lv_aload_nN hx hb hd rfl (hl.at h1) k) (hK _ _ _ _ _ _ _ h)
  | aload n =>
    obtain ⟨rfl, rfl⟩ := xln_spec hr
    have h : xlocA L _ (fun v => K _ L (v :: st) M nx cb sb) := h
    rcases xlocA_spec h with ⟨a, h1, h⟩ | ⟨h1, h⟩
    · exact XZ.go (fun hx hb hl k => lv_aload hx hb hd (hl.at h1) k) (hK _ _ _ _ _ _ _ h)
    · exact XZ.go (fun hx hb hl k => lv_aloadN hx hb hd (hl.at h1) k) (hK _ _ _ _ _ _ _ h)
  | istore_n n =>
    obtain ⟨rfl, rfl⟩ := xln_spec hr
    obtain ⟨x, r, rfl, h1, h⟩ := xI1_spec h
    exact xs_store1 h1 rfl (fun hx hb e k => x_istore_n hx hb hd e k) (hK _ _ _ _ _ _ _ h)
  | istore n =>
    obtain ⟨rfl, rfl⟩ := xln_spec hr
    obtain ⟨x, r, rfl, h1, h⟩ := xI1_spec h
    exact xs_store1 h1 rfl (fun hx hb e k => x_istore hx hb hd e k) (hK _ _ _ _ _ _ _ h)
  | astore_n n =>
    obtain ⟨rfl, rfl⟩ := xln_spec hr
    have h : xRv st (fun v r => n.val < L.length ∧ K (pc + 1) (L.set n.val (some v)) r M nx cb sb) := h
    rcases xRv_spec h with ⟨a, r, rfl, h1, h⟩ | ⟨r, rfl, h1, h⟩
    · exact xs_store1 h1 rfl (fun hx hb e k => x_astore_n hx hb hd e rfl k) (hK _ _ _ _ _ _ _ h)
    · exact xs_store1 h1 rfl (fun hx hb e k => x_astore_n hx hb hd e rfl k) (hK _ _ _ _ _ _ _ h)
  | astore n =>
    obtain ⟨rfl, rfl⟩ := xln_spec hr
    have h : xRv st (fun v r => n < L.length ∧ K (pc + 2) (L.set n (some v)) r M nx cb sb) := h
    rcases xRv_spec h with ⟨a, r, rfl, h1, h⟩ | ⟨r, rfl, h1, h⟩
    · exact xs_store1 h1 rfl (fun hx hb e k => x_astore hx hb hd e rfl k) (hK _ _ _ _ _ _ _ h)
    · exact xs_store1 h1 rfl (fun hx hb e k => x_astore hx hb hd e rfl k) (hK _ _ _ _ _ _ _ h)
  | iinc n v =>
    obtain ⟨rfl, rfl⟩ := xln_spec hr
    obtain ⟨x, h1, h⟩ := xlocI_spec h
    exact xs_iinc hd h1 (hK _ _ _ _ _ _ _ h)
  | iadd =>
    obtain ⟨rfl, rfl⟩ := xln_spec hr
    obtain ⟨x, y, r, rfl, h⟩ := xI2_spec h
    exact XZ.go (fun hx hb _ k => lv_iadd hx hb hd k) (hK _ _ _ _ _ _ _ h)
  | isub =>
    obtain ⟨rfl, rfl⟩ := xln_spec hr
    obtain ⟨x, y, r, rfl, h⟩ := xI2_spec h
    exact XZ.go (fun hx hb _ k => lv_isub hx hb hd k) (hK _ _ _ _ _ _ _ h)
  | imul =>
    obtain ⟨rfl, rfl⟩ := xln_spec hr
    obtain ⟨x, y, r, rfl, h⟩ := xI2_spec h
    exact XZ.go (fun hx hb _ k => lv_imul hx hb hd k) (hK _ _ _ _ _ _ _ h)
  | iand =>
    obtain ⟨rfl, rfl⟩ := xln_spec hr
    obtain ⟨x, y, r, rfl, h⟩ := xI2_spec h
    exact XZ.go (fun hx hb _ k => lv_iand hx hb hd k) (hK _ _ _ _ _ _ _ h)
  | ior =>
    obtain ⟨rfl, rfl⟩ := xln_spec hr
    obtain ⟨x, y, r, rfl, h⟩ := xI2_spec h
    exact XZ.go (fun hx hb _ k => lv_ior hx hb hd k) (hK _ _ _ _ _ _ _ h)
  | ixor =>
    obtain ⟨rfl, rfl⟩ := xln_spec hr
    obtain ⟨x, y, r, rfl, h⟩ := xI2_spec h
    exact XZ.go (fun hx hb _ k => lv_ixor hx hb hd k) (hK _ _ _ _ _ _ _ h)
  | ishl =>
    obtain ⟨rfl, rfl⟩ := xln_spec hr
    obtain ⟨x, y, r, rfl, h⟩ := xI2_spec h
    exact XZ.go (fun hx hb _ k => lv_ishl hx hb hd k) (hK _ _ _ _ _ _ _ h)
  | ishr =>
    obtain ⟨rfl, rfl⟩ := xln_spec hr
    obtain ⟨x, y, r, rfl, h⟩ := xI2_spec h
    exact XZ.go (fun hx hb _ k => lv_ishr hx hb hd k) (hK _ _ _ _ _ _ _ h)
  | iushr =>
    obtain ⟨rfl, rfl⟩ := xln_spec hr
    obtain ⟨x, y, r, rfl, h⟩ := xI2_spec h
    exact XZ.go (fun hx hb _ k => lv_iushr hx hb hd rfl k) (hK _ _ _ _ _ _ _ h)
  | idiv =>
    obtain ⟨rfl, rfl⟩ := xln_spec hr
    obtain ⟨x, y, r, rfl, h1, h⟩ := xI2_spec h
    exact XZ.go (fun hx hb _ k => lv_idiv hx hb hd h1 k) (hK _ _ _ _ _ _ _ h)
  | irem =>
    obtain ⟨rfl, rfl⟩ := xln_spec hr
    obtain ⟨x, y, r, rfl, h1, h⟩ := xI2_spec h
    exact XZ.go (fun hx hb _ k => lv_irem hx hb hd h1 k) (hK _ _ _ _ _ _ _ h)
  | ineg =>
    obtain ⟨rfl, rfl⟩ := xln_spec hr
    obtain ⟨x, r, rfl, h⟩ := xI1_spec h
    exact XZ.go (fun hx hb _ k => lv_ineg hx hb hd k) (hK _ _ _ _ _ _ _ h)
  | i2b =>
    obtain ⟨rfl, rfl⟩ := xln_spec hr
    obtain ⟨x, r, rfl, h⟩ := xI1_spec h
    exact XZ.go (fun hx hb _ k => lv_i2b hx hb hd rfl k) (hK _ _ _ _ _ _ _ h)
  | i2s =>
    obtain ⟨rfl, rfl⟩ := xln_spec hr
    obtain ⟨x, r, rfl, h⟩ := xI1_spec h
    exact XZ.go (fun hx hb _ k => lv_i2s hx hb hd rfl k) (hK _ _ _ _ _ _ _ h)
  | i2c =>
    obtain ⟨rfl, rfl⟩ := xln_spec hr
    obtain ⟨x, r, rfl, h⟩ := xI1_spec h
    exact XZ.go (fun hx hb _ k => lv_i2c hx hb hd rfl k) (hK _ _ _ _ _ _ _ h)
  | dup =>
    obtain ⟨rfl, rfl⟩ := xln_spec hr
    obtain ⟨v, r, rfl, h1, h⟩ := xV1_spec h
    exact XZ.go (fun hx hb _ k => lv_dup hx hb hd h1 k) (hK _ _ _ _ _ _ _ h)
  | pop =>
    obtain ⟨rfl, rfl⟩ := xln_spec hr
    obtain ⟨v, r, rfl, h1, h⟩ := xV1_spec h
    exact XZ.go (fun hx hb _ k => lv_pop hx hb hd h1 k) (hK _ _ _ _ _ _ _ h)
  | dup_x1 =>
    obtain ⟨rfl, rfl⟩ := xln_spec hr
    obtain ⟨v, w, r, rfl, h1, h2, h⟩ := xV2_spec h
    exact XZ.go (fun hx hb _ k => lv_dup_x1 hx hb hd h1 h2 k) (hK _ _ _ _ _ _ _ h)
  | dup_x2 =>
    obtain ⟨rfl, rfl⟩ := xln_spec hr
    obtain ⟨v, w, u, r, rfl, h1, h2, h3, h⟩ := xV3_spec h
    exact XZ.go (fun hx hb _ k => lv_dup_x2 hx hb hd h1 h2 h3 k) (hK _ _ _ _ _ _ _ h)
  | dup2 =>
    obtain ⟨rfl, rfl⟩ := xln_spec hr
    obtain ⟨v, w, r, rfl, h1, h2, h⟩ := xV2_spec h
    exact XZ.go (fun hx hb _ k => lv_dup2_11 hx hb hd h1 h2 k) (hK _ _ _ _ _ _ _ h)
  | ifCond cond off =>
    cases cond with
    | eq =>
      obtain ⟨rfl, ht2, rfl⟩ := xlt_spec hr
      obtain ⟨x, r, rfl, h⟩ := xI1_spec h
      have h := xif h
      exact XZ.br inferInstance (fun hx hb k1 k2 => lv_if_eq hx hb hd ht2 k1 k2) (fun z => hK _ _ _ _ _ _ _ (h.1 z)) (fun z => hK _ _ _ _ _ _ _ (h.2 z))
    | ne =>
      obtain ⟨rfl, ht2, rfl⟩ := xlt_spec hr
      obtain ⟨x, r, rfl, h⟩ := xI1_spec h
      have h := xif h
      exact XZ.br inferInstance (fun hx hb k1 k2 => lv_if_ne hx hb hd ht2 k2 k1) (fun z => hK _ _ _ _ _ _ _ (h.1 z)) (fun z => hK _ _ _ _ _ _ _ (h.2 z))
    | lt =>
      obtain ⟨rfl, ht2, rfl⟩ := xlt_spec hr
      obtain ⟨x, r, rfl, h⟩ := xI1_spec h
      have h := xif h
      exact XZ.br inferInstance (fun hx hb k1 k2 => lv_if_lt hx hb hd ht2 k1 k2) (fun z => hK _ _ _ _ _ _ _ (h.1 z)) (fun z => hK _ _ _ _ _ _ _ (h.2 z))
    | ge =>
      obtain ⟨rfl, ht2, rfl⟩ := xlt_spec hr
      obtain ⟨x, r, rfl, h⟩ := xI1_spec h
      have h := xif h
      exact XZ.br inferInstance (fun hx hb k1 k2 => lv_if_ge hx hb hd ht2 k1 k2) (fun z => hK _ _ _ _ _ _ _ (h.1 z)) (fun z => hK _ _ _ _ _ _ _ (h.2 z))
    | gt =>
      obtain ⟨rfl, ht2, rfl⟩ := xlt_spec hr
      obtain ⟨x, r, rfl, h⟩ := xI1_spec h
      have h := xif h
      exact XZ.br inferInstance (fun hx hb k1 k2 => lv_if_gt hx hb hd ht2 k1 k2) (fun z => hK _ _ _ _ _ _ _ (h.1 z)) (fun z => hK _ _ _ _ _ _ _ (h.2 z))
    | le =>
      obtain ⟨rfl, ht2, rfl⟩ := xlt_spec hr
      obtain ⟨x, r, rfl, h⟩ := xI1_spec h
      have h := xif h
      exact XZ.br inferInstance (fun hx hb k1 k2 => lv_if_le hx hb hd ht2 k1 k2) (fun z => hK _ _ _ _ _ _ _ (h.1 z)) (fun z => hK _ _ _ _ _ _ _ (h.2 z))
  | if_icmp cond off =>
    cases cond with
    | eq =>
      obtain ⟨rfl, ht2, rfl⟩ := xlt_spec hr
      obtain ⟨x, y, r, rfl, h⟩ := xI2_spec h
      have h := xif h
      exact XZ.br inferInstance (fun hx hb k1 k2 => lv_icmp_eq hx hb hd ht2 k1 k2) (fun z => hK _ _ _ _ _ _ _ (h.1 z)) (fun z => hK _ _ _ _ _ _ _ (h.2 z))
    | ne =>
      obtain ⟨rfl, ht2, rfl⟩ := xlt_spec hr
      obtain ⟨x, y, r, rfl, h⟩ := xI2_spec h
      have h := xif h
      exact XZ.br inferInstance (fun hx hb k1 k2 => lv_icmp_ne hx hb hd ht2 k2 k1) (fun z => hK _ _ _ _ _ _ _ (h.1 z)) (fun z => hK _ _ _ _ _ _ _ (h.2 z))
    | lt =>
      obtain ⟨rfl, ht2, rfl⟩ := xlt_spec hr
      obtain ⟨x, y, r, rfl, h⟩ := xI2_spec h
      have h := xif h
      exact XZ.br inferInstance (fun hx hb k1 k2 => lv_icmp_lt hx hb hd ht2 k1 k2) (fun z => hK _ _ _ _ _ _ _ (h.1 z)) (fun z => hK _ _ _ _ _ _ _ (h.2 z))
    | ge =>
      obtain ⟨rfl, ht2, rfl⟩ := xlt_spec hr
      obtain ⟨x, y, r, rfl, h⟩ := xI2_spec h
      have h := xif h
      exact XZ.br inferInstance (fun hx hb k1 k2 => lv_icmp_ge hx hb hd ht2 k1 k2) (fun z => hK _ _ _ _ _ _ _ (h.1 z)) (fun z => hK _ _ _ _ _ _ _ (h.2 z))
    | gt =>
      obtain ⟨rfl, ht2, rfl⟩ := xlt_spec hr
      obtain ⟨x, y, r, rfl, h⟩ := xI2_spec h
      have h := xif h
      exact XZ.br inferInstance (fun hx hb k1 k2 => lv_icmp_gt hx hb hd ht2 k1 k2) (fun z => hK _ _ _ _ _ _ _ (h.1 z)) (fun z => hK _ _ _ _ _ _ _ (h.2 z))
    | le =>
      obtain ⟨rfl, ht2, rfl⟩ := xlt_spec hr
      obtain ⟨x, y, r, rfl, h⟩ := xI2_spec h
      have h := xif h
      exact XZ.br inferInstance (fun hx hb k1 k2 => lv_icmp_le hx hb hd ht2 k1 k2) (fun z => hK _ _ _ _ _ _ _ (h.1 z)) (fun z => hK _ _ _ _ _ _ _ (h.2 z))
  | ifnull off =>
    obtain ⟨rfl, ht2, rfl⟩ := xlt_spec hr
    have h : xR1 st (fun o r => if o = none then K (xt pc off) L r M nx cb sb else K (pc + 3) L r M nx cb sb) := h
    rcases xR1_spec h with ⟨a, r, rfl, h9⟩ | ⟨r, rfl, h9⟩
    · rw [if_neg (by exact fun z => nomatch z)] at h9
      exact XZ.go (fun hx hb _ k => lv_ifnull hx hb hd k) (hK _ _ _ _ _ _ _ h9)
    · rw [if_pos rfl] at h9
      exact XZ.go (fun hx hb _ k => lv_ifnullN hx hb hd ht2 k) (hK _ _ _ _ _ _ _ h9)
  | ifnonnull off =>
    obtain ⟨rfl, ht2, rfl⟩ := xlt_spec hr
    have h : xR1 st (fun o r => if o = none then K (pc + 3) L r M nx cb sb else K (xt pc off) L r M nx cb sb) := h
    rcases xR1_spec h with ⟨a, r, rfl, h9⟩ | ⟨r, rfl, h9⟩
    · rw [if_neg (by exact fun z => nomatch z)] at h9
      exact XZ.go (fun hx hb _ k => lv_ifnonnull hx hb hd ht2 k) (hK _ _ _ _ _ _ _ h9)
    · rw [if_pos rfl] at h9
      exact XZ.go (fun hx hb _ k => lv_ifnonnullN hx hb hd k) (hK _ _ _ _ _ _ _ h9)
  | goto off =>
    obtain ⟨rfl, ht2, rfl⟩ := xlt_spec hr
    exact XZ.go (fun hx hb _ k => lv_goto hx hb hd ht2 k) (hK _ _ _ _ _ _ _ h)
  | if_acmp cond off =>
    cases cond with
    | eq =>
      obtain ⟨rfl, ht2, rfl⟩ := xlt_spec hr
      have h : xR1 st (fun y s => xR1 s fun x r => if x = y then K (xt pc off) L r M nx cb sb else K (pc + 3) L r M nx cb sb) := h
      obtain ⟨y, s, rfl, h8⟩ := xR1_rf h
      obtain ⟨x, r, rfl, h9⟩ := xR1_rf h8
      have h9 := xif h9
      exact XZ.br inferInstance (fun hx hb k1 k2 => lv_acmp_eq hx hb hd ht2 k1 k2) (fun z => hK _ _ _ _ _ _ _ (h9.1 z)) (fun z => hK _ _ _ _ _ _ _ (h9.2 z))
    | ne =>
      obtain ⟨rfl, ht2, rfl⟩ := xlt_spec hr
      have h : xR1 st (fun y s => xR1 s fun x r => if x = y then K (pc + 3) L r M nx cb sb else K (xt pc off) L r M nx cb sb) := h
      obtain ⟨y, s, rfl, h8⟩ := xR1_rf h
      obtain ⟨x, r, rfl, h9⟩ := xR1_rf h8
      have h9 := xif h9
      exact XZ.br inferInstance (fun hx hb k1 k2 => lv_acmp_ne hx hb hd ht2 k2 k1) (fun z => hK _ _ _ _ _ _ _ (h9.1 z)) (fun z => hK _ _ _ _ _ _ _ (h9.2 z))
  | tableswitch d lo hi offs =>
    exact xs_table hK hd hr h
  | newarray at' =>
    cases at' with
    | int =>
      obtain ⟨rfl, rfl⟩ := xln_spec hr
      exact xs_newarray hd ⟨rfl, by decide⟩ hK h
    | byte =>
      obtain ⟨rfl, rfl⟩ := xln_spec hr
      exact xs_newarray hd ⟨rfl, by decide⟩ hK h
    | boolean =>
      obtain ⟨rfl, rfl⟩ := xln_spec hr
      exact xs_newarray hd ⟨rfl, by decide⟩ hK h
    | char =>
      obtain ⟨rfl, rfl⟩ := xln_spec hr
      exact xs_newarray hd ⟨rfl, by decide⟩ hK h
    | _ => cases hr
  | arraylength =>
    obtain ⟨rfl, rfl⟩ := xln_spec hr
    obtain ⟨a, r, rfl, h⟩ := xA1_spec h
    obtain ⟨t, n, f, h1, h⟩ := xarr_spec h
    exact xs_alen hd h1 (hK _ _ _ _ _ _ _ h)
  | iaload =>
    obtain ⟨rfl, rfl⟩ := xln_spec hr
    obtain ⟨j, a, r, rfl, h⟩ := xIA_spec h
    obtain ⟨t, n, f, h1, ⟨h2, h3⟩, h4, h5, h⟩ := xarr_spec h
    exact xs_iaload hd h1 h2 h3 h4 h5 (hK _ _ _ _ _ _ _ h)
  | baload =>
    obtain ⟨rfl, rfl⟩ := xln_spec hr
    obtain ⟨j, a, r, rfl, h⟩ := xIA_spec h
    obtain ⟨t, n, f, h1, ⟨h2, h3⟩, h4, h5, h⟩ := xarr_spec h
    exact xs_baload hd h1 h2 h3 h4 h5 (hK _ _ _ _ _ _ _ h)
  | caload =>
    obtain ⟨rfl, rfl⟩ := xln_spec hr
    obtain ⟨j, a, r, rfl, h⟩ := xIA_spec h
    obtain ⟨t, n, f, h1, ⟨h2, h3⟩, h4, h5, h⟩ := xarr_spec h
    exact xs_caload hd h1 h2 h3 h4 h5 (hK _ _ _ _ _ _ _ h)
  | aaload =>
    obtain ⟨rfl, rfl⟩ := xln_spec hr
    obtain ⟨j, a, r, rfl, h⟩ := xIA_spec h
    obtain ⟨t, n, f, h1, ⟨h2, h3⟩, h4, h5, h⟩ := xarr_spec h
    exact xs_aaload hd h1 h2 h3 h4 h5 (hK _ _ _ _ _ _ _ h)
  | iastore =>
    obtain ⟨rfl, rfl⟩ := xln_spec hr
    obtain ⟨x, j, a, r, rfl, h0, h⟩ := xIIA_spec h
    obtain ⟨t, n, f, h1, ⟨h2, h3⟩, h4, h5, h⟩ := xarr_spec h
    exact xs_iastore hd h0 h1 h2 h3 h4 h5 (hK _ _ _ _ _ _ _ h)
  | bastore =>
    obtain ⟨rfl, rfl⟩ := xln_spec hr
    obtain ⟨x, j, a, r, rfl, h0, h⟩ := xIIA_spec h
    obtain ⟨t, n, f, h1, ⟨h2, h3⟩, h4, h5, h⟩ := xarr_spec h
    exact xs_bastore hd h0 h1 h2 h3 h4 h5 (hK _ _ _ _ _ _ _ h)
  | castore =>
    obtain ⟨rfl, rfl⟩ := xln_spec hr
    obtain ⟨x, j, a, r, rfl, h0, h⟩ := xIIA_spec h
    obtain ⟨t, n, f, h1, ⟨h2, h3⟩, h4, h5, h⟩ := xarr_spec h
    exact xs_castore hd h0 h1 h2 h3 h4 h5 (hK _ _ _ _ _ _ _ h)
  | aastore =>
    obtain ⟨rfl, rfl⟩ := xln_spec hr
    obtain ⟨v, j, a, r, rfl, h0, h⟩ := xVIA_spec h
    obtain ⟨t, n, f, h1, h2, h4, h5, h6, h⟩ := xarr_spec h
    exact xs_aastore hd h0 h1 h2 h4 h5 h6 (hK _ _ _ _ _ _ _ h)
  | ireturn =>
    obtain ⟨t, h1, hr⟩ := Option.bind_eq_some_iff.mp hr
    obtain ⟨rfl, rfl⟩ := xln_spec hr
    obtain ⟨x, r, rfl, rfl, h2, h⟩ := xI1_spec h
    exact hR pc L (some (.int x)) M nx cb sb _ hd (Or.inl ⟨rfl, x, t, rfl, h1, h2⟩) h
  | areturn =>
    obtain ⟨h1, hr⟩ := xite_spec hr
    obtain ⟨rfl, rfl⟩ := xln_spec hr
    have h : xRv st (fun v r => r = [] ∧ Rf (some v) M nx) := h
    rcases xRv_spec h with ⟨a, r, rfl, rfl, h9⟩ | ⟨r, rfl, rfl, h9⟩
    · exact hR pc L (some (.ref a)) M nx cb sb _ hd (Or.inr (Or.inl ⟨rfl, h1, Or.inr ⟨a, rfl⟩⟩)) h9
    · exact hR pc L (some .null) M nx cb sb _ hd (Or.inr (Or.inl ⟨rfl, h1, Or.inl rfl⟩)) h9
  | return_ =>
    obtain ⟨h1, hr⟩ := xite_spec hr
    obtain ⟨rfl, rfl⟩ := xln_spec hr
    obtain ⟨rfl, h⟩ := h
    exact hR pc L none M nx cb sb _ hd (Or.inr (Or.inr ⟨rfl, h1, rfl⟩)) h
  | putfield idx =>
    obtain ⟨rfl, hr⟩ := xite_spec hr
    rcases xor2_spec hr with hr | hr
    · obtain ⟨ci, k, tc, rfl, hF, hWr⟩ := xlk_spec hr
      exact xs_put hK hd hF hWr (fun z => by cases z) h
    · obtain ⟨hin, hr⟩ := xite_spec hr
      obtain ⟨ci, k, tc, rfl, hF, hWr⟩ := xlk_spec hr
      exact xs_put hK hd hF hWr (fun _ => hin) h
  | getstatic idx =>
    obtain ⟨rfl, hr⟩ := xite_spec hr
    rcases xor2_spec hr with hr | hr
    · exact xs_getstatic hK hd hr h
    · exact xs_getstaticR hK hd hr h
  | checkcast idx =>
    obtain ⟨rfl, hr⟩ := xite_spec hr
    rcases xor2_spec hr with hr | hr
    · exact xs_checkcast hK hd hr h
    · exact xs_castA hK hd hr h
  | invokevirtual idx =>
    obtain ⟨rfl, hr⟩ := xite_spec hr
    rcases xor2_spec hr with hr | hr
    · exact xs_invokevirtual hK hKX hd hr h
    rcases xor2_spec hr with hr | hr
    · exact xs_override hK hKX hd hr h
    · exact xs_clone hK hd hr h
  | invokestatic idx =>
    obtain ⟨rfl, hr⟩ := xite_spec hr
    rcases xor2_spec hr with hr | hr
    · exact xs_invokestatic hK hKX hd hr h
    · exact xs_staticS hK hd hr h
  | invokespecial idx =>
    obtain ⟨rfl, hr⟩ := xite_spec hr
    rcases xor2_spec hr with hr | hr
    · exact xs_invokespecial hK hKX hd hr h
    · exact xs_super hK hKX hd hr h
  | getfield idx =>
    obtain ⟨rfl, hr⟩ := xite_spec hr
    exact xs_getfield hK hd hr h
  | new idx =>
    obtain ⟨rfl, hr⟩ := xite_spec hr
    exact xs_new hK hd hr h
  | anewarray idx =>
    obtain ⟨rfl, hr⟩ := xite_spec hr
    exact xs_anewarray hK hd hr h
  | ldc idx =>
    obtain ⟨rfl, hr⟩ := xite_spec hr
    exact xs_ldc hK hd hr h
  | instanceof idx =>
    obtain ⟨rfl, hr⟩ := xite_spec hr
    exact xs_instanceof hK hd hr h
  | _ => cases hr
end XS
end
section
/-- many steps: it stops at the places in S, behind a call, and when n is used up -/
def xrun (S : List Nat) (Rf : Option Value → xM → Nat → Prop) (E : xE) (i : Nat) (Z : List Frame → Array Value → State → State → Prop) : Nat → Nat → List (Option Value) → List Value → xM → Nat → Nat → Nat → Prop
  | 0, pc, L, st, M, nx, cb, sb => XZ E i Z pc L st M nx cb sb
  | n + 1, pc, L, st, M, nx, cb, sb => if S.elem pc = true then XZ E i Z pc L st M nx cb sb else
    match xtab i pc with
    | some ro => xstep (xrun S Rf E i Z n) (XZ E i Z) Rf E pc ro.2 L st M nx cb sb ro.1
    | none => False
section XR
variable {E : xE} {i : Nat} {Z : List Frame → Array Value → State → State → Prop} {Rf : Option Value → xM → Nat → Prop} {S : List Nat}
theorem xrun_ok (hR : ∀ pc L v M nx cb sb ins, decode (xcode i) pc = .ok (ins, 1) → xretI i ins v → Rf v M nx → XZ E i Z pc L v.toList M nx cb sb) :
    ∀ (n pc : Nat) (L : List (Option Value)) (st : List Value) (M : xM) (nx cb sb : Nat), xrun S Rf E i Z n pc L st M nx cb sb → XZ E i Z pc L st M nx cb sb
  | 0, _, _, _, _, _, _, _, h => h
  | n + 1, pc, L, st, M, nx, cb, sb, h => by
    unfold xrun at h
    split at h
    · exact h
    · split at h
      · next ro ht => exact xstep_ok (fun pc L st M nx cb sb hk => xrun_ok hR n pc L st M nx cb sb hk) (fun _ _ _ _ _ _ _ hk => hk) hR ht h
      · exact h.elim
/-- the first step whatever S says -/
theorem xrun_go (hR : ∀ pc L v M nx cb sb ins, decode (xcode i) pc = .ok (ins, 1) → xretI i ins v → Rf v M nx → XZ E i Z pc L v.toList M nx cb sb) (n : Nat) {pc : Nat} {L : List (Option Value)} {st : List Value} {M : xM} {nx cb sb : Nat} {ro : xI × Nat} (ht : xtab i pc = some ro)
    (h : xstep (xrun S Rf E i Z n) (XZ E i Z) Rf E pc ro.2 L st M nx cb sb ro.1) : XZ E i Z pc L st M nx cb sb :=
  xstep_ok (fun pc L st M nx cb sb hk => xrun_ok hR n pc L st M nx cb sb hk) (fun _ _ _ _ _ _ _ hk => hk) hR ht h
theorem xret_ok {Q : Option Value → xM → Nat → Prop} : ∀ pc L v M nx cb sb ins, decode (xcode i) pc = .ok (ins, 1) → xretI i ins v → Q v M nx → XZ E i (xZ E i Q) pc L v.toList M nx cb sb := by
  intro pc L v M nx cb sb ins hd hr hQ g p e s m args below meth c H locs cells slots ls C hM hn hl hL hc hs hq
  refine W.widen (k := xmc i) (n := xms i) (by omega) (by omega) ?_
  subst hn
  have hx := C.1
  have hb := C.2.1
  have hret := C.2.2.2.1
  have hlk := C.2.2.2.2.1
  rcases hr with ⟨rfl, x, t, rfl, h1, h2⟩ | ⟨rfl, h1, h2⟩ | ⟨rfl, h1, rfl⟩
  · cases hty : xret i with
    | none => rw [hty] at h1; cases h1
    | some ty =>
      rw [hty] at h1 hret
      have hnar : narrow ty (.int x) = .int x := by
        cases ty <;> cases h1 <;> first | exact (xfit_spec (ty := .byte) (v := .int x) h2).1 | exact (xfit_spec (ty := .char) (v := .int x) h2).1 | exact (xfit_spec (ty := .int) (v := .int x) h2).1 | exact (xfit_spec (ty := .boolean) (v := .int x) h2).1
      exact W.zret hx hb hret hnar (fun t ht hW => ⟨some (.int x), M, rfl, by rw [ht]; exact hM, by rw [ht]; exact hQ⟩) hq hd hlk
  · cases hty : xret i with
    | none => rw [hty] at h1; cases h1
    | some ty =>
      rw [hty] at h1 hret
      have hrt : (∃ n, ty = .object n) ∨ ∃ t, ty = .array t := by
        cases ty <;> first | (cases h1; done) | exact Or.inl ⟨_, rfl⟩ | exact Or.inr ⟨_, rfl⟩
      rcases h2 with rfl | ⟨a, rfl⟩
      · exact W.aret hx hb hret hrt (Or.inl rfl) (fun t ht hW => ⟨some .null, M, rfl, by rw [ht]; exact hM, by rw [ht]; exact hQ⟩) hq hd hlk
      · exact W.aret hx hb hret hrt (Or.inr ⟨a, rfl⟩) (fun t ht hW => ⟨some (.ref a), M, rfl, by rw [ht]; exact hM, by rw [ht]; exact hQ⟩) hq hd hlk
  · rw [h1] at hret
    exact W.vret hx hb hret (fun t ht hW => ⟨none, M, rfl, by rw [ht]; exact hM, by rw [ht]; exact hQ⟩) hq hd hlk
/-- a method from its entry -/
theorem XC.run {As : List Value} {M : xM} {nx : Nat} {Q : Option Value → xM → Nat → Prop} (n : Nat) (S : List Nat) (h : xrun S Q E i (xZ E i Q) n 0 (xentry As (xmax i)) [] M nx (xmc i) (xms i)) : XC E i As M nx Q := xrun_ok xret_ok n _ _ _ _ _ _ _ h
theorem XZ.run {pc : Nat} {L : List (Option Value)} {st : List Value} {M : xM} {nx cb sb : Nat} {Q : Option Value → xM → Nat → Prop} (n : Nat) (S : List Nat) (h : xrun S Q E i (xZ E i Q) n pc L st M nx cb sb) : XZ E i (xZ E i Q) pc L st M nx cb sb := xrun_ok xret_ok n _ _ _ _ _ _ _ h
theorem XZ.run1 {pc : Nat} {L : List (Option Value)} {st : List Value} {M : xM} {nx cb sb : Nat} {Q : Option Value → xM → Nat → Prop} {ro : xI × Nat} (n : Nat) (S : List Nat) (ht : xtab i pc = some ro) (h : xstep (xrun S Q E i (xZ E i Q) n) (XZ E i (xZ E i Q)) Q E pc ro.2 L st M nx cb sb ro.1) : XZ E i (xZ E i Q) pc L st M nx cb sb := xrun_go xret_ok n ht h
/-- a weaker end -/
theorem XZ.weak {pc : Nat} {L L' : List (Option Value)} {st : List Value} {M : xM} {nx cb sb cb' sb' : Nat} (h : XZ E i Z pc L' st M nx cb' sb') (hn : L'.length = L.length) (hs : ∀ (j : Nat) (w : Value), L'[j]? = some (some w) → L[j]? = some (some w)) (h1 : cb' ≤ cb) (h2 : sb' ≤ sb) : XZ E i Z pc L st M nx cb sb :=
  fun g p e s m args below meth c H locs cells slots ls C hM hnx hl hL hc hsl hq => h g p e s m args below meth c H locs cells slots ls C hM hnx (hl.less hn hs) (by rw [hn]; exact hL) (by omega) (by omega) hq
theorem xZ_mono {Q Q' : Option Value → xM → Nat → Prop} (h : ∀ v M n, Q v M n → Q' v M n) {below : List Frame} {args : Array Value} {s t : State} (z : xZ E i Q below args s t) : xZ E i Q' below args s t := by
  obtain ⟨o, h1, h2, ⟨v, M, h3, h4, h5⟩, h6⟩ := z
  exact ⟨o, h1, h2, ⟨v, M, h3, h4, h _ _ _ h5⟩, h6⟩
theorem XZ.mono {Q Q' : Option Value → xM → Nat → Prop} (h : ∀ v M n, Q v M n → Q' v M n) {pc : Nat} {L : List (Option Value)} {st : List Value} {M : xM} {nx cb sb : Nat} (z : XZ E i (xZ E i Q) pc L st M nx cb sb) : XZ E i (xZ E i Q') pc L st M nx cb sb := by
  intro g p e s m args below meth c H locs cells slots ls C hM hn hl hL hc hs hq T hT X
  obtain ⟨t, a1, a2⟩ := z g p e s m args below meth c H locs cells slots ls C hM hn hl hL hc hs hq T hT X
  exact ⟨t, a1, xZ_mono h a2⟩
theorem XC.mono {As : List Value} {M : xM} {nx : Nat} {Q Q' : Option Value → xM → Nat → Prop} (z : XC E i As M nx Q) (h : ∀ v M n, Q v M n → Q' v M n) : XC E i As M nx Q' := XZ.mono h z
end XR
end
