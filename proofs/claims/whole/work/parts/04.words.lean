/-! links: what an index into a class's pool stands for -/
abbrev xLk : Type := Nat × Nat × Nat × xI
def xfld (own : String) (idx ci k : Nat) : Prop := ∃ (cd : vw_C) (ref : String), xcl[ci]? = some cd ∧ k < cd.2.2 ∧ (ref = (cd.2.1 k).1 ∨ Cond.sameField ref (cd.2.1 k).1 (cd.2.1 k).2.1 (cd.2.1 k).2.2.1 ∈ lw_tbl) ∧
  (Cond.fieldLink own idx ref (cd.2.1 k).2.1 (cd.2.1 k).2.2.1 ∈ lw_tbl ∨ ∃ host, Cond.fieldLinkNest own idx ref (cd.2.1 k).2.1 (cd.2.1 k).2.2.1 host ∈ lw_tbl)
def xtcT : FieldType → Nat
  | .int => 0
  | .boolean => 1
  | .byte => 2
  | .char => 3
  | .object _ => 4
  | .array _ => 4
  | _ => 9
def xwr (own : String) (ci k tc : Nat) (fin : Bool) : Prop := ∃ (cd : vw_C) (ty : FieldType), xcl[ci]? = some cd ∧ (cd.2.1 k).2.2.2 = fin ∧ (fin = true → (cd.2.1 k).1 = own) ∧ parseFieldDescriptor (cd.2.1 k).2.2.1 = some ty ∧ xtcT ty = tc
/-- what every call needs -/
def xcallee (j n : Nat) : Prop := Cond.code (xy j) (xcode j) (xmax j) (xret j) ∈ lw_tbl ∧ Cond.initialized (xy j).cls ∈ lw_tbl ∧ ((xy j).cls ≠ "java/lang/invoke/MethodHandle" ∧ (xy j).cls ≠ "java/lang/invoke/VarHandle" ∧ (parseMethodDescriptor (xy j).desc).map (fun d => d.parameters.length) = some n) ∧ plainName (xy j).cls = true
def xlok (q : xLk) : Prop := match q with
  | (cn, idx, 50, row) => ∃ ci k, row = (50, 0, ci, k, 0, []) ∧ xfld (xown cn) idx ci k
  | (cn, idx, 51, row) => ∃ ci k tc, row = (51, 0, ci, k, tc, []) ∧ xfld (xown cn) idx ci k ∧ xwr (xown cn) ci k tc false
  | (cn, idx, 151, row) => ∃ ci k tc, row = (51, 0, ci, k, tc, []) ∧ xfld (xown cn) idx ci k ∧ xwr (xown cn) ci k tc true
  | (cn, idx, 52, row) => ∃ (v : Int32) (C n d : String), row = (52, v, 0, 0, 0, []) ∧ (C, n, d, v) ∈ xsta ∧ (Cond.fieldLink (xown cn) idx C n d ∈ lw_tbl)
  | (cn, idx, 53, row) => ∃ ci n cd, row = (53, 0, ci, n, 0, []) ∧ xcl[ci]? = some cd ∧ Cond.classLink (xown cn) idx cd.1 ∈ lw_tbl ∧ Cond.instantiable cd.1 n ∈ lw_tbl ∧ Cond.initialized cd.1 ∈ lw_tbl
  | (cn, idx, 55, row) => ∃ t cd, row = (55, 0, t, 0, 0, []) ∧ 4 ≤ t ∧ xcl[xaci t]? = some cd ∧ Cond.classLink (xown cn) idx cd.1 ∈ lw_tbl ∧ Cond.arrayOver (.object cd.1) ∈ lw_tbl
  | (cn, idx, 60, row) => (∃ n tx, row = (60, 0, n, 0, 0, []) ∧ (xown cn, idx, tx, n) ∈ xstr) ∨ ∃ v : Int32, row = (0, v, 0, 0, 0, []) ∧ Cond.constant (xown cn) idx v ∈ lw_tbl
  | (cn, idx, 61, row) => ∃ ci cd, row = (61, 0, ci, 0, 0, []) ∧ xcl[ci]? = some cd ∧ Cond.classLink (xown cn) idx cd.1 ∈ lw_tbl
  | (cn, idx, 62, row) => ∃ ci cd, row = (62, 0, ci, 0, 0, []) ∧ xcl[ci]? = some cd ∧ Cond.classLink (xown cn) idx cd.1 ∈ lw_tbl
  | (cn, idx, 70, row) => ∃ j n ci cd, row = (70, 0, j, n, ci, []) ∧ xcl[ci]? = some cd ∧ xcallee j n ∧ Cond.instanceMethod (xy j) ∈ lw_tbl ∧ (Cond.selects cd.1 (xy j) (xy j) ∈ lw_tbl ∨ ∃ nn, Cond.instantiable cd.1 nn ∈ lw_tbl ∧ Cond.sameMethod (xy j).cls (xy j).cls (xy j).name (xy j).desc ∈ lw_tbl ∧ Cond.privateMethod (xy j) ∈ lw_tbl) ∧ (Cond.methodLink (xown cn) idx (xy j) ∈ lw_tbl ∨ ∃ host, Cond.methodLinkNest (xown cn) idx (xy j) host ∈ lw_tbl)
  | (cn, idx, 71, row) => ∃ j n, row = (71, 0, j, n, 0, []) ∧ xcallee j n ∧ Cond.static (xy j) ∈ lw_tbl ∧ (Cond.methodLink (xown cn) idx (xy j) ∈ lw_tbl ∨ ∃ host, Cond.methodLinkNest (xown cn) idx (xy j) host ∈ lw_tbl)
  | (cn, idx, 72, row) => (row = (73, 0, 0, 0, 0, []) ∧ Cond.methodLink (xown cn) idx Lib.objectInit ∈ lw_tbl ∧ Cond.instanceMethod Lib.objectInit ∈ lw_tbl ∧ Cond.code Lib.objectInit ⟨#[0xb1]⟩ 1 none ∈ lw_tbl) ∨
      ∃ j n, row = (72, 0, j, n, 0, []) ∧ xcallee j n ∧ (xy j).name = "<init>" ∧ xret j = none ∧ Cond.instanceMethod (xy j) ∈ lw_tbl ∧ (Cond.methodLink (xown cn) idx (xy j) ∈ lw_tbl ∨ ∃ host, Cond.methodLinkNest (xown cn) idx (xy j) host ∈ lw_tbl)
  | (cn, idx, 152, row) => row = (63, 0, 0, 0, 0, []) ∧ Cond.fieldLink (xown cn) idx "jdk/internal/util/Preconditions" "SIOOBE_FORMATTER" "Ljava/util/function/BiFunction;" ∈ lw_tbl
  | (cn, idx, 172, row) => ∃ j n ci cd, row = (75, 0, j, n, ci, []) ∧ xcl[ci]? = some cd ∧ xcallee j n ∧ (xy j).name ≠ "<init>" ∧ Cond.methodLink (xown cn) idx (xy j) ∈ lw_tbl ∧ Cond.sameMethod (xy j).cls (xy j).cls (xy j).name (xy j).desc ∈ lw_tbl ∧ Cond.superclass (xown cn) (xy j).cls ∈ lw_tbl ∧ Cond.instanceMethod (xy j) ∈ lw_tbl
  | (cn, idx, 170, row) => ∃ j n ci cd x b0 m0 r0, row = (76, 0, j, n, ci, []) ∧ xcl[ci]? = some cd ∧ xcallee j n ∧ Cond.methodLink (xown cn) idx x ∈ lw_tbl ∧ Cond.sameMethod x.cls x.cls x.name x.desc ∈ lw_tbl ∧ Cond.instanceMethod x ∈ lw_tbl ∧ Cond.code x b0 m0 r0 ∈ lw_tbl ∧ Cond.selects cd.1 x (xy j) ∈ lw_tbl ∧ Cond.instanceMethod (xy j) ∈ lw_tbl ∧ (x.cls ≠ "java/lang/invoke/MethodHandle" ∧ x.cls ≠ "java/lang/invoke/VarHandle") ∧ (parseMethodDescriptor x.desc).map (fun d => d.parameters.length) = some n
  | (cn, idx, 171, row) => (row = (77, 0, 0, 0, 0, []) ∧ Cond.methodLink (xown cn) idx Lib.Math.max.name ∈ lw_tbl ∧ Cond.static Lib.Math.max.name ∈ lw_tbl ∧ Cond.initialized "java/lang/Math" ∈ lw_tbl ∧ Cond.code Lib.Math.max.name Lib.Math.max.code 2 (some .int) ∈ lw_tbl) ∨
      (row = (78, 0, 0, 0, 0, []) ∧ Cond.methodLink (xown cn) idx Lib.Math.min.name ∈ lw_tbl ∧ Cond.static Lib.Math.min.name ∈ lw_tbl ∧ Cond.initialized "java/lang/Math" ∈ lw_tbl ∧ Cond.code Lib.Math.min.name Lib.Math.min.code 2 (some .int) ∈ lw_tbl) ∨
      (row = (79, 0, 0, 0, 0, []) ∧ Cond.methodLink (xown cn) idx arraycopyName ∈ lw_tbl ∧ Cond.native arraycopyName ∈ lw_tbl ∧ Cond.static arraycopyName ∈ lw_tbl ∧ Cond.initialized "java/lang/System" ∈ lw_tbl)
  | (cn, idx, 180, row) => row = (80, 0, 0, 0, 0, []) ∧ Cond.methodLink (xown cn) idx ⟨"[B", "clone", "()Ljava/lang/Object;"⟩ ∈ lw_tbl ∧ Cond.sameMethod "[B" "java/lang/Object" "clone" "()Ljava/lang/Object;" ∈ lw_tbl ∧ Cond.native ⟨"java/lang/Object", "clone", "()Ljava/lang/Object;"⟩ ∈ lw_tbl ∧ Cond.instanceMethod ⟨"java/lang/Object", "clone", "()Ljava/lang/Object;"⟩ ∈ lw_tbl ∧ Cond.selects "[B" ⟨"[B", "clone", "()Ljava/lang/Object;"⟩ ⟨"java/lang/Object", "clone", "()Ljava/lang/Object;"⟩ ∈ lw_tbl ∧ Cond.castable "[B" "java/lang/Cloneable" ∈ lw_tbl
  | (cn, idx, 162, row) => row = (81, 0, 0, 0, 0, []) ∧ Cond.classLink (xown cn) idx "[B" ∈ lw_tbl
  | _ => True
theorem xsel (y : MethodName) (n : Nat) (h : (y, n) ∈ lw_privs) : Cond.selects y.cls y y ∈ lw_tbl := List.mem_append_left _ (List.mem_map.mpr ⟨(y, n), h, rfl⟩)
theorem xce1 : xcallee 1 2 := ⟨xin 953 (by decide +kernel), xin 0 (by decide +kernel), by decide +kernel, by decide +kernel⟩
theorem xce2 : xcallee 2 3 := ⟨xin 29 (by decide +kernel), xin 1 (by decide +kernel), by decide +kernel, by decide +kernel⟩
theorem xce3 : xcallee 3 1 := ⟨xin 162 (by decide +kernel), xin 1 (by decide +kernel), by decide +kernel, by decide +kernel⟩
theorem xce4 : xcallee 4 0 := ⟨xin 268 (by decide +kernel), xin 1 (by decide +kernel), by decide +kernel, by decide +kernel⟩
theorem xce5 : xcallee 5 1 := ⟨xin 458 (by decide +kernel), xin 1 (by decide +kernel), by decide +kernel, by decide +kernel⟩
theorem xce6 : xcallee 6 2 := ⟨xin 552 (by decide +kernel), xin 1 (by decide +kernel), by decide +kernel, by decide +kernel⟩
theorem xce7 : xcallee 7 2 := ⟨xin 561 (by decide +kernel), xin 1 (by decide +kernel), by decide +kernel, by decide +kernel⟩
theorem xce8 : xcallee 8 1 := ⟨xin 573 (by decide +kernel), xin 1 (by decide +kernel), by decide +kernel, by decide +kernel⟩
theorem xce9 : xcallee 9 1 := ⟨xin 733 (by decide +kernel), xin 1 (by decide +kernel), by decide +kernel, by decide +kernel⟩
theorem xce10 : xcallee 10 1 := ⟨xin 741 (by decide +kernel), xin 1 (by decide +kernel), by decide +kernel, by decide +kernel⟩
theorem xce11 : xcallee 11 1 := ⟨xin 753 (by decide +kernel), xin 1 (by decide +kernel), by decide +kernel, by decide +kernel⟩
theorem xce12 : xcallee 12 0 := ⟨xin 757 (by decide +kernel), xin 1 (by decide +kernel), by decide +kernel, by decide +kernel⟩
theorem xce13 : xcallee 13 2 := ⟨xin 836 (by decide +kernel), xin 1 (by decide +kernel), by decide +kernel, by decide +kernel⟩
theorem xce14 : xcallee 14 2 := ⟨xin 845 (by decide +kernel), xin 1 (by decide +kernel), by decide +kernel, by decide +kernel⟩
theorem xce15 : xcallee 15 2 := ⟨xin 850 (by decide +kernel), xin 1 (by decide +kernel), by decide +kernel, by decide +kernel⟩
theorem xce16 : xcallee 16 4 := ⟨xin 910 (by decide +kernel), xin 1 (by decide +kernel), by decide +kernel, by decide +kernel⟩
theorem xce17 : xcallee 17 1 := ⟨xin 922 (by decide +kernel), xin 1 (by decide +kernel), by decide +kernel, by decide +kernel⟩
theorem xce18 : xcallee 18 1 := ⟨xin 926 (by decide +kernel), xin 1 (by decide +kernel), by decide +kernel, by decide +kernel⟩
theorem xce19 : xcallee 19 1 := ⟨xin 930 (by decide +kernel), xin 1 (by decide +kernel), by decide +kernel, by decide +kernel⟩
theorem xce20 : xcallee 20 2 := ⟨xin 934 (by decide +kernel), xin 1 (by decide +kernel), by decide +kernel, by decide +kernel⟩
theorem xce21 : xcallee 21 1 := ⟨xin 946 (by decide +kernel), xin 1 (by decide +kernel), by decide +kernel, by decide +kernel⟩
theorem xce22 : xcallee 22 0 := ⟨xin 950 (by decide +kernel), xin 1 (by decide +kernel), by decide +kernel, by decide +kernel⟩
theorem xce23 : xcallee 23 0 := ⟨xin 272 (by decide +kernel), xin 1 (by decide +kernel), by decide +kernel, by decide +kernel⟩
theorem xce24 : xcallee 24 3 := ⟨xin 636 (by decide +kernel), xin 1 (by decide +kernel), by decide +kernel, by decide +kernel⟩
theorem xce25 : xcallee 25 1 := ⟨xin 737 (by decide +kernel), xin 1 (by decide +kernel), by decide +kernel, by decide +kernel⟩
theorem xce26 : xcallee 26 0 := ⟨xin 794 (by decide +kernel), xin 1 (by decide +kernel), by decide +kernel, by decide +kernel⟩
theorem xce27 : xcallee 27 0 := ⟨xin 802 (by decide +kernel), xin 1 (by decide +kernel), by decide +kernel, by decide +kernel⟩
theorem xce28 : xcallee 28 0 := ⟨xin 811 (by decide +kernel), xin 1 (by decide +kernel), by decide +kernel, by decide +kernel⟩
theorem xce29 : xcallee 29 1 := ⟨xin 914 (by decide +kernel), xin 1 (by decide +kernel), by decide +kernel, by decide +kernel⟩
theorem xce30 : xcallee 30 1 := ⟨xin 815 (by decide +kernel), xin 1 (by decide +kernel), by decide +kernel, by decide +kernel⟩
theorem xce31 : xcallee 31 1 := ⟨xin 832 (by decide +kernel), xin 1 (by decide +kernel), by decide +kernel, by decide +kernel⟩
theorem xce32 : xcallee 32 0 := ⟨xin 70 (by decide +kernel), xin 6 (by decide +kernel), by decide +kernel, by decide +kernel⟩
theorem xce33 : xcallee 33 1 := ⟨xin 439 (by decide +kernel), xin 6 (by decide +kernel), by decide +kernel, by decide +kernel⟩
theorem xce34 : xcallee 34 1 := ⟨xin 462 (by decide +kernel), xin 6 (by decide +kernel), by decide +kernel, by decide +kernel⟩
theorem xce35 : xcallee 35 1 := ⟨xin 556 (by decide +kernel), xin 6 (by decide +kernel), by decide +kernel, by decide +kernel⟩
theorem xce36 : xcallee 36 2 := ⟨xin 565 (by decide +kernel), xin 6 (by decide +kernel), by decide +kernel, by decide +kernel⟩
theorem xce37 : xcallee 37 1 := ⟨xin 632 (by decide +kernel), xin 6 (by decide +kernel), by decide +kernel, by decide +kernel⟩
theorem xce38 : xcallee 38 0 := ⟨xin 761 (by decide +kernel), xin 6 (by decide +kernel), by decide +kernel, by decide +kernel⟩
theorem xce39 : xcallee 39 0 := ⟨xin 769 (by decide +kernel), xin 6 (by decide +kernel), by decide +kernel, by decide +kernel⟩
theorem xce40 : xcallee 40 0 := ⟨xin 778 (by decide +kernel), xin 6 (by decide +kernel), by decide +kernel, by decide +kernel⟩
theorem xce41 : xcallee 41 0 := ⟨xin 790 (by decide +kernel), xin 6 (by decide +kernel), by decide +kernel, by decide +kernel⟩
theorem xce42 : xcallee 42 1 := ⟨xin 569 (by decide +kernel), xin 6 (by decide +kernel), by decide +kernel, by decide +kernel⟩
theorem xce43 : xcallee 43 2 := ⟨xin 661 (by decide +kernel), xin 6 (by decide +kernel), by decide +kernel, by decide +kernel⟩
theorem xce44 : xcallee 44 2 := ⟨xin 657 (by decide +kernel), xin 6 (by decide +kernel), by decide +kernel, by decide +kernel⟩
theorem xce45 : xcallee 45 3 := ⟨xin 640 (by decide +kernel), xin 6 (by decide +kernel), by decide +kernel, by decide +kernel⟩
theorem xce46 : xcallee 46 1 := ⟨xin 653 (by decide +kernel), xin 6 (by decide +kernel), by decide +kernel, by decide +kernel⟩
theorem xce47 : xcallee 47 1 := ⟨xin 540 (by decide +kernel), xin 19 (by decide +kernel), by decide +kernel, by decide +kernel⟩
theorem xce48 : xcallee 48 1 := ⟨xin 472 (by decide +kernel), xin 19 (by decide +kernel), by decide +kernel, by decide +kernel⟩
theorem xce49 : xcallee 49 0 := ⟨xin 765 (by decide +kernel), xin 19 (by decide +kernel), by decide +kernel, by decide +kernel⟩
theorem xce50 : xcallee 50 2 := ⟨xin 782 (by decide +kernel), xin 19 (by decide +kernel), by decide +kernel, by decide +kernel⟩
theorem xce51 : xcallee 51 0 := ⟨xin 841 (by decide +kernel), xin 20 (by decide +kernel), by decide +kernel, by decide +kernel⟩
theorem xce52 : xcallee 52 1 := ⟨xin 544 (by decide +kernel), xin 20 (by decide +kernel), by decide +kernel, by decide +kernel⟩
theorem xce53 : xcallee 53 0 := ⟨xin 548 (by decide +kernel), xin 20 (by decide +kernel), by decide +kernel, by decide +kernel⟩
theorem xce54 : xcallee 54 0 := ⟨xin 773 (by decide +kernel), xin 20 (by decide +kernel), by decide +kernel, by decide +kernel⟩
theorem xce55 : xcallee 55 0 := ⟨xin 479 (by decide +kernel), xin 20 (by decide +kernel), by decide +kernel, by decide +kernel⟩
theorem xce56 : xcallee 56 3 := ⟨xin 786 (by decide +kernel), xin 20 (by decide +kernel), by decide +kernel, by decide +kernel⟩
theorem xce57 : xcallee 57 1 := ⟨xin 443 (by decide +kernel), xin 17 (by decide +kernel), by decide +kernel, by decide +kernel⟩
theorem xce58 : xcallee 58 1 := ⟨xin 94 (by decide +kernel), xin 7 (by decide +kernel), by decide +kernel, by decide +kernel⟩
theorem xce59 : xcallee 59 2 := ⟨xin 819 (by decide +kernel), xin 7 (by decide +kernel), by decide +kernel, by decide +kernel⟩
theorem xce60 : xcallee 60 3 := ⟨xin 678 (by decide +kernel), xin 22 (by decide +kernel), by decide +kernel, by decide +kernel⟩
theorem xce61 : xcallee 61 1 := ⟨xin 938 (by decide +kernel), xin 22 (by decide +kernel), by decide +kernel, by decide +kernel⟩
theorem xce62 : xcallee 62 1 := ⟨xin 666 (by decide +kernel), xin 22 (by decide +kernel), by decide +kernel, by decide +kernel⟩
theorem xce63 : xcallee 63 1 := ⟨xin 798 (by decide +kernel), xin 22 (by decide +kernel), by decide +kernel, by decide +kernel⟩
theorem xce64 : xcallee 64 1 := ⟨xin 824 (by decide +kernel), xin 22 (by decide +kernel), by decide +kernel, by decide +kernel⟩
theorem xce65 : xcallee 65 0 := ⟨xin 942 (by decide +kernel), xin 22 (by decide +kernel), by decide +kernel, by decide +kernel⟩
theorem xce66 : xcallee 66 2 := ⟨xin 828 (by decide +kernel), xin 22 (by decide +kernel), by decide +kernel, by decide +kernel⟩
theorem xce67 : xcallee 67 0 := ⟨xin 685 (by decide +kernel), xin 23 (by decide +kernel), by decide +kernel, by decide +kernel⟩
theorem xce68 : xcallee 68 3 := ⟨xin 854 (by decide +kernel), xin 24 (by decide +kernel), by decide +kernel, by decide +kernel⟩
theorem xce69 : xcallee 69 3 := ⟨xin 918 (by decide +kernel), xin 24 (by decide +kernel), by decide +kernel, by decide +kernel⟩
theorem xce70 : xcallee 70 1 := ⟨xin 807 (by decide +kernel), xin 24 (by decide +kernel), by decide +kernel, by decide +kernel⟩
theorem xce71 : xcallee 71 1 := ⟨xin 576 (by decide +kernel), xin 21 (by decide +kernel), by decide +kernel, by decide +kernel⟩
theorem xce72 : xcallee 72 1 := ⟨xin 744 (by decide +kernel), xin 21 (by decide +kernel), by decide +kernel, by decide +kernel⟩
theorem xce73 : xcallee 73 3 := ⟨xin 612 (by decide +kernel), xin 21 (by decide +kernel), by decide +kernel, by decide +kernel⟩
theorem xce74 : xcallee 74 1 := ⟨xin 349 (by decide +kernel), xin 15 (by decide +kernel), by decide +kernel, by decide +kernel⟩
theorem xce75 : xcallee 75 1 := ⟨xin 356 (by decide +kernel), xin 15 (by decide +kernel), by decide +kernel, by decide +kernel⟩
theorem xce76 : xcallee 76 1 := ⟨xin 748 (by decide +kernel), xin 15 (by decide +kernel), by decide +kernel, by decide +kernel⟩
theorem xce77 : xcallee 77 2 := ⟨xin 669 (by decide +kernel), xin 15 (by decide +kernel), by decide +kernel, by decide +kernel⟩
theorem xce78 : xcallee 78 5 := ⟨xin 674 (by decide +kernel), xin 15 (by decide +kernel), by decide +kernel, by decide +kernel⟩
theorem xce79 : xcallee 79 3 := ⟨xin 958 (by decide +kernel), xin 8 (by decide +kernel), by decide +kernel, by decide +kernel⟩
theorem xce80 : xcallee 80 1 := ⟨xin 1112 (by decide +kernel), xin 8 (by decide +kernel), by decide +kernel, by decide +kernel⟩
theorem xce81 : xcallee 81 0 := ⟨xin 1116 (by decide +kernel), xin 8 (by decide +kernel), by decide +kernel, by decide +kernel⟩
theorem xce82 : xcallee 82 1 := ⟨xin 1135 (by decide +kernel), xin 8 (by decide +kernel), by decide +kernel, by decide +kernel⟩
theorem xce83 : xcallee 83 2 := ⟨xin 1147 (by decide +kernel), xin 8 (by decide +kernel), by decide +kernel, by decide +kernel⟩
theorem xce84 : xcallee 84 2 := ⟨xin 1151 (by decide +kernel), xin 8 (by decide +kernel), by decide +kernel, by decide +kernel⟩
theorem xce85 : xcallee 85 1 := ⟨xin 1219 (by decide +kernel), xin 8 (by decide +kernel), by decide +kernel, by decide +kernel⟩
theorem xce86 : xcallee 86 1 := ⟨xin 1258 (by decide +kernel), xin 8 (by decide +kernel), by decide +kernel, by decide +kernel⟩
theorem xce87 : xcallee 87 1 := ⟨xin 1262 (by decide +kernel), xin 8 (by decide +kernel), by decide +kernel, by decide +kernel⟩
theorem xce88 : xcallee 88 1 := ⟨xin 1274 (by decide +kernel), xin 8 (by decide +kernel), by decide +kernel, by decide +kernel⟩
theorem xce89 : xcallee 89 0 := ⟨xin 1171 (by decide +kernel), xin 8 (by decide +kernel), by decide +kernel, by decide +kernel⟩
theorem xce90 : xcallee 90 2 := ⟨xin 1167 (by decide +kernel), xin 8 (by decide +kernel), by decide +kernel, by decide +kernel⟩
theorem xce91 : xcallee 91 2 := ⟨xin 1155 (by decide +kernel), xin 8 (by decide +kernel), by decide +kernel, by decide +kernel⟩
theorem xce92 : xcallee 92 2 := ⟨xin 1282 (by decide +kernel), xin 8 (by decide +kernel), by decide +kernel, by decide +kernel⟩
theorem xce93 : xcallee 93 4 := ⟨xin 1286 (by decide +kernel), xin 8 (by decide +kernel), by decide +kernel, by decide +kernel⟩
theorem xce94 : xcallee 94 1 := ⟨xin 1294 (by decide +kernel), xin 8 (by decide +kernel), by decide +kernel, by decide +kernel⟩
theorem xce95 : xcallee 95 1 := ⟨xin 1298 (by decide +kernel), xin 8 (by decide +kernel), by decide +kernel, by decide +kernel⟩
theorem xce96 : xcallee 96 1 := ⟨xin 1302 (by decide +kernel), xin 8 (by decide +kernel), by decide +kernel, by decide +kernel⟩
theorem xce97 : xcallee 97 2 := ⟨xin 1278 (by decide +kernel), xin 8 (by decide +kernel), by decide +kernel, by decide +kernel⟩
theorem xce98 : xcallee 98 1 := ⟨xin 1306 (by decide +kernel), xin 8 (by decide +kernel), by decide +kernel, by decide +kernel⟩
theorem xce99 : xcallee 99 0 := ⟨xin 1310 (by decide +kernel), xin 8 (by decide +kernel), by decide +kernel, by decide +kernel⟩
theorem xce100 : xcallee 100 2 := ⟨xin 1120 (by decide +kernel), xin 8 (by decide +kernel), by decide +kernel, by decide +kernel⟩
theorem xce101 : xcallee 101 3 := ⟨xin 1131 (by decide +kernel), xin 8 (by decide +kernel), by decide +kernel, by decide +kernel⟩
theorem xce102 : xcallee 102 1 := ⟨xin 1139 (by decide +kernel), xin 8 (by decide +kernel), by decide +kernel, by decide +kernel⟩
theorem xce103 : xcallee 103 1 := ⟨xin 1223 (by decide +kernel), xin 8 (by decide +kernel), by decide +kernel, by decide +kernel⟩
theorem xce104 : xcallee 104 1 := ⟨xin 1227 (by decide +kernel), xin 8 (by decide +kernel), by decide +kernel, by decide +kernel⟩
theorem xce105 : xcallee 105 1 := ⟨xin 1266 (by decide +kernel), xin 8 (by decide +kernel), by decide +kernel, by decide +kernel⟩
theorem xce106 : xcallee 106 0 := ⟨xin 1175 (by decide +kernel), xin 8 (by decide +kernel), by decide +kernel, by decide +kernel⟩
theorem xce107 : xcallee 107 0 := ⟨xin 1179 (by decide +kernel), xin 8 (by decide +kernel), by decide +kernel, by decide +kernel⟩
theorem xce108 : xcallee 108 1 := ⟨xin 1183 (by decide +kernel), xin 8 (by decide +kernel), by decide +kernel, by decide +kernel⟩
theorem xce109 : xcallee 109 0 := ⟨xin 1191 (by decide +kernel), xin 8 (by decide +kernel), by decide +kernel, by decide +kernel⟩
theorem xce110 : xcallee 110 2 := ⟨xin 1195 (by decide +kernel), xin 8 (by decide +kernel), by decide +kernel, by decide +kernel⟩
theorem xce111 : xcallee 111 1 := ⟨xin 1199 (by decide +kernel), xin 8 (by decide +kernel), by decide +kernel, by decide +kernel⟩
theorem xce112 : xcallee 112 1 := ⟨xin 1203 (by decide +kernel), xin 8 (by decide +kernel), by decide +kernel, by decide +kernel⟩
theorem xce113 : xcallee 113 2 := ⟨xin 1159 (by decide +kernel), xin 8 (by decide +kernel), by decide +kernel, by decide +kernel⟩
theorem xce114 : xcallee 114 1 := ⟨xin 1290 (by decide +kernel), xin 8 (by decide +kernel), by decide +kernel, by decide +kernel⟩
theorem xce115 : xcallee 115 2 := ⟨xin 1124 (by decide +kernel), xin 8 (by decide +kernel), by decide +kernel, by decide +kernel⟩
theorem xce116 : xcallee 116 2 := ⟨xin 1143 (by decide +kernel), xin 8 (by decide +kernel), by decide +kernel, by decide +kernel⟩
theorem xce117 : xcallee 117 1 := ⟨xin 1231 (by decide +kernel), xin 8 (by decide +kernel), by decide +kernel, by decide +kernel⟩
theorem xce118 : xcallee 118 3 := ⟨xin 1235 (by decide +kernel), xin 8 (by decide +kernel), by decide +kernel, by decide +kernel⟩
theorem xce119 : xcallee 119 3 := ⟨xin 1250 (by decide +kernel), xin 8 (by decide +kernel), by decide +kernel, by decide +kernel⟩
theorem xce120 : xcallee 120 2 := ⟨xin 1270 (by decide +kernel), xin 8 (by decide +kernel), by decide +kernel, by decide +kernel⟩
theorem xce121 : xcallee 121 4 := ⟨xin 1187 (by decide +kernel), xin 8 (by decide +kernel), by decide +kernel, by decide +kernel⟩
theorem xce122 : xcallee 122 2 := ⟨xin 1207 (by decide +kernel), xin 8 (by decide +kernel), by decide +kernel, by decide +kernel⟩
theorem xce123 : xcallee 123 3 := ⟨xin 1211 (by decide +kernel), xin 8 (by decide +kernel), by decide +kernel, by decide +kernel⟩
theorem xce124 : xcallee 124 2 := ⟨xin 1215 (by decide +kernel), xin 8 (by decide +kernel), by decide +kernel, by decide +kernel⟩
theorem xce125 : xcallee 125 1 := ⟨xin 1163 (by decide +kernel), xin 8 (by decide +kernel), by decide +kernel, by decide +kernel⟩
theorem xce126 : xcallee 126 1 := ⟨xin 1127 (by decide +kernel), xin 8 (by decide +kernel), by decide +kernel, by decide +kernel⟩
theorem xce127 : xcallee 127 2 := ⟨xin 1239 (by decide +kernel), xin 8 (by decide +kernel), by decide +kernel, by decide +kernel⟩
theorem xce128 : xcallee 128 4 := ⟨xin 1246 (by decide +kernel), xin 8 (by decide +kernel), by decide +kernel, by decide +kernel⟩
theorem xce129 : xcallee 129 2 := ⟨xin 1254 (by decide +kernel), xin 8 (by decide +kernel), by decide +kernel, by decide +kernel⟩
theorem xce130 : xcallee 130 1 := ⟨xin 1242 (by decide +kernel), xin 8 (by decide +kernel), by decide +kernel, by decide +kernel⟩
theorem xce131 : xcallee 131 1 := ⟨xin 40 (by decide +kernel), xin 2 (by decide +kernel), by decide +kernel, by decide +kernel⟩
theorem xce132 : xcallee 132 0 := ⟨xin 169 (by decide +kernel), xin 2 (by decide +kernel), by decide +kernel, by decide +kernel⟩
theorem xce133 : xcallee 133 1 := ⟨xin 176 (by decide +kernel), xin 2 (by decide +kernel), by decide +kernel, by decide +kernel⟩
theorem xce134 : xcallee 134 1 := ⟨xin 180 (by decide +kernel), xin 2 (by decide +kernel), by decide +kernel, by decide +kernel⟩
theorem xce135 : xcallee 135 0 := ⟨xin 216 (by decide +kernel), xin 2 (by decide +kernel), by decide +kernel, by decide +kernel⟩
theorem xce136 : xcallee 136 1 := ⟨xin 333 (by decide +kernel), xin 2 (by decide +kernel), by decide +kernel, by decide +kernel⟩
theorem xce137 : xcallee 137 1 := ⟨xin 184 (by decide +kernel), xin 2 (by decide +kernel), by decide +kernel, by decide +kernel⟩
theorem xce138 : xcallee 138 0 := ⟨xin 290 (by decide +kernel), xin 2 (by decide +kernel), by decide +kernel, by decide +kernel⟩
theorem xce139 : xcallee 139 1 := ⟨xin 465 (by decide +kernel), xin 18 (by decide +kernel), by decide +kernel, by decide +kernel⟩
theorem xce142 : xcallee 142 0 := ⟨xin 353 (by decide +kernel), xin 4 (by decide +kernel), by decide +kernel, by decide +kernel⟩
theorem xce143 : xcallee 143 1 := ⟨xin 384 (by decide +kernel), xin 4 (by decide +kernel), by decide +kernel, by decide +kernel⟩
theorem xce144 : xcallee 144 2 := ⟨xin 581 (by decide +kernel), xin 4 (by decide +kernel), by decide +kernel, by decide +kernel⟩
theorem xce145 : xcallee 145 1 := ⟨xin 604 (by decide +kernel), xin 4 (by decide +kernel), by decide +kernel, by decide +kernel⟩
theorem xce146 : xcallee 146 1 := ⟨xin 645 (by decide +kernel), xin 4 (by decide +kernel), by decide +kernel, by decide +kernel⟩
theorem xce147 : xcallee 147 1 := ⟨xin 281 (by decide +kernel), xin 4 (by decide +kernel), by decide +kernel, by decide +kernel⟩
theorem xce148 : xcallee 148 0 := ⟨xin 360 (by decide +kernel), xin 4 (by decide +kernel), by decide +kernel, by decide +kernel⟩
theorem xce149 : xcallee 149 1 := ⟨xin 369 (by decide +kernel), xin 4 (by decide +kernel), by decide +kernel, by decide +kernel⟩
theorem xce150 : xcallee 150 2 := ⟨xin 388 (by decide +kernel), xin 4 (by decide +kernel), by decide +kernel, by decide +kernel⟩
theorem xce151 : xcallee 151 3 := ⟨xin 415 (by decide +kernel), xin 4 (by decide +kernel), by decide +kernel, by decide +kernel⟩
theorem xce152 : xcallee 152 0 := ⟨xin 373 (by decide +kernel), xin 4 (by decide +kernel), by decide +kernel, by decide +kernel⟩
theorem xce153 : xcallee 153 2 := ⟨xin 284 (by decide +kernel), xin 4 (by decide +kernel), by decide +kernel, by decide +kernel⟩
theorem xce154 : xcallee 154 0 := ⟨xin 364 (by decide +kernel), xin 4 (by decide +kernel), by decide +kernel, by decide +kernel⟩
theorem xce155 : xcallee 155 2 := ⟨xin 591 (by decide +kernel), xin 4 (by decide +kernel), by decide +kernel, by decide +kernel⟩
theorem xce156 : xcallee 156 2 := ⟨xin 261 (by decide +kernel), xin 4 (by decide +kernel), by decide +kernel, by decide +kernel⟩
theorem xce157 : xcallee 157 0 := ⟨xin 37 (by decide +kernel), xin 3 (by decide +kernel), by decide +kernel, by decide +kernel⟩
theorem xce158 : xcallee 158 0 := ⟨xin 166 (by decide +kernel), xin 3 (by decide +kernel), by decide +kernel, by decide +kernel⟩
theorem xce159 : xcallee 159 1 := ⟨xin 173 (by decide +kernel), xin 3 (by decide +kernel), by decide +kernel, by decide +kernel⟩
theorem xce160 : xcallee 160 0 := ⟨xin 276 (by decide +kernel), xin 3 (by decide +kernel), by decide +kernel, by decide +kernel⟩
theorem xce161 : xcallee 161 1 := ⟨xin 330 (by decide +kernel), xin 3 (by decide +kernel), by decide +kernel, by decide +kernel⟩
theorem xce162 : xcallee 162 1 := ⟨xin 219 (by decide +kernel), xin 13 (by decide +kernel), by decide +kernel, by decide +kernel⟩
theorem xce163 : xcallee 163 3 := ⟨xin 585 (by decide +kernel), xin 13 (by decide +kernel), by decide +kernel, by decide +kernel⟩
theorem xce164 : xcallee 164 2 := ⟨xin 649 (by decide +kernel), xin 13 (by decide +kernel), by decide +kernel, by decide +kernel⟩
theorem xce165 : xcallee 165 2 := ⟨xin 376 (by decide +kernel), xin 13 (by decide +kernel), by decide +kernel, by decide +kernel⟩
theorem xce166 : xcallee 166 4 := ⟨xin 392 (by decide +kernel), xin 13 (by decide +kernel), by decide +kernel, by decide +kernel⟩
theorem xce167 : xcallee 167 1 := ⟨xin 395 (by decide +kernel), xin 13 (by decide +kernel), by decide +kernel, by decide +kernel⟩
theorem xce168 : xcallee 168 4 := ⟨xin 400 (by decide +kernel), xin 13 (by decide +kernel), by decide +kernel, by decide +kernel⟩
theorem xce169 : xcallee 169 2 := ⟨xin 198 (by decide +kernel), xin 11 (by decide +kernel), by decide +kernel, by decide +kernel⟩
theorem xce170 : xcallee 170 3 := ⟨xin 295 (by decide +kernel), xin 11 (by decide +kernel), by decide +kernel, by decide +kernel⟩
theorem xce171 : xcallee 171 3 := ⟨xin 298 (by decide +kernel), xin 11 (by decide +kernel), by decide +kernel, by decide +kernel⟩
theorem xce172 : xcallee 172 2 := ⟨xin 301 (by decide +kernel), xin 11 (by decide +kernel), by decide +kernel, by decide +kernel⟩
theorem xce173 : xcallee 173 3 := ⟨xin 187 (by decide +kernel), xin 9 (by decide +kernel), by decide +kernel, by decide +kernel⟩
theorem xce174 : xcallee 174 4 := ⟨xin 418 (by decide +kernel), xin 14 (by decide +kernel), by decide +kernel, by decide +kernel⟩
theorem xce175 : xcallee 175 3 := ⟨xin 264 (by decide +kernel), xin 14 (by decide +kernel), by decide +kernel, by decide +kernel⟩
