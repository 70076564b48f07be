/-! What the tables say of the code above: checked by the kernel, once for each method. -/
def nstW : List Cond := [.methodLinkNest "SheetMaker" (9 : Nat) ({ cls := "SheetMaker$Roads", name := "<init>", desc := "()V" } : Jvm.MethodName) "SheetMaker", .methodLinkNest "SheetMaker" (18 : Nat) ({ cls := "SheetMaker$Names", name := "<init>", desc := "()V" } : Jvm.MethodName) "SheetMaker", .methodLinkNest "SheetMaker" (32 : Nat) ({ cls := "SheetMaker$Picture", name := "<init>", desc := "()V" } : Jvm.MethodName) "SheetMaker", .methodLinkNest "SheetMaker" (39 : Nat) ({ cls := "SheetMaker$Road", name := "<init>", desc := "()V" } : Jvm.MethodName) "SheetMaker", .methodLinkNest "SheetMaker$Name" (24 : Nat) ({ cls := "SheetMaker", name := "placeOf", desc := "(II)I" } : Jvm.MethodName) "SheetMaker", .methodLinkNest "SheetMaker$Sheet" (42 : Nat) ({ cls := "SheetMaker", name := "xOf", desc := "(I)I" } : Jvm.MethodName) "SheetMaker", .methodLinkNest "SheetMaker$Sheet" (48 : Nat) ({ cls := "SheetMaker", name := "yOf", desc := "(I)I" } : Jvm.MethodName) "SheetMaker", .methodLinkNest "SheetMaker$Names" (70 : Nat) ({ cls := "SheetMaker", name := "placeOf", desc := "(II)I" } : Jvm.MethodName) "SheetMaker", .methodLinkNest "SheetMaker$Road" (25 : Nat) ({ cls := "SheetMaker", name := "has", desc := "(II)Z" } : Jvm.MethodName) "SheetMaker", .methodLinkNest "SheetMaker$Roads" (52 : Nat) ({ cls := "SheetMaker", name := "has", desc := "(II)Z" } : Jvm.MethodName) "SheetMaker", .methodLinkNest "SheetMaker$Sheet" (9 : Nat) ({ cls := "SheetMaker$Picture", name := "<init>", desc := "()V" } : Jvm.MethodName) "SheetMaker", .methodLinkNest "SheetMaker$Road" (39 : Nat) ({ cls := "SheetMaker", name := "xOf", desc := "(I)I" } : Jvm.MethodName) "SheetMaker", .methodLinkNest "SheetMaker$Road" (42 : Nat) ({ cls := "SheetMaker", name := "yOf", desc := "(I)I" } : Jvm.MethodName) "SheetMaker", .castable "java/lang/IndexOutOfBoundsException" "java/lang/IndexOutOfBoundsException", .castable "java/lang/IllegalArgumentException" "java/lang/IllegalArgumentException", .castable "java/lang/IllegalStateException" "java/lang/IllegalStateException", .castable "SheetMaker" "java/lang/Object", .castable "SheetMaker$Roads" "java/lang/Object", .castable "java/util/ArrayList" "java/lang/Object", .castable "SheetMaker$Names" "java/lang/Object", .castable "SheetMaker$Picture" "java/lang/Object", .castable "SheetMaker$Road" "java/lang/Object", .castable "java/lang/IndexOutOfBoundsException" "java/lang/Object", .castable "java/lang/IllegalArgumentException" "java/lang/Object", .castable "java/lang/IllegalStateException" "java/lang/Object", .castable "SheetMaker$Name" "java/lang/Object", .castable "SheetMaker$Sheet" "java/lang/Object", .castable "java/lang/Throwable" "java/lang/Object", .castable "java/lang/String" "java/lang/Object", .castable "[I" "java/lang/Object", .castable "[B" "java/lang/Object", .castable "[Ljava/lang/Object;" "java/lang/Object"]
def strW : List (Nat × String) := [(208, "no such name"), (218, "an argument is out of range"), (214, "no such scale"), (146, "there are as many sheets as there may be"), (212, "no such sheet"), (58, "the draft is full"), (67, "the draft ends at this place"), (76, "the draft is too short"), (79, "there are as many roads as there may be"), (204, "no such road"), (97, "no such point"), (100, "the point ahead or behind is at this place"), (182, "the stock would be too large"), (188, "the stock is less"), (113, "there are as many names as there may be")]
def exN (e : Nat) : String := if e = 1 then "java/lang/IndexOutOfBoundsException" else if e = 2 then "java/lang/IllegalArgumentException" else "java/lang/IllegalStateException"
def exU : List String := ["java/lang/RuntimeException", "java/lang/Exception"]
def ncW : List (String × String) := [(exN 1, exN 2), (exN 1, exN 3), (exN 2, exN 1), (exN 2, exN 3), (exN 3, exN 1), (exN 3, exN 2)]
abbrev Tb : List Cond := lw_tbl.filter goodWord
def tb (j : Nat) (w : Cond) : Bool := decide (lw_tbl[j]? = some w) && goodWord w
theorem tb_mem {j : Nat} {w : Cond} (h : tb j w = true) : w ∈ Tb := by
  simp only [tb, Bool.and_eq_true, decide_eq_true_eq] at h
  exact List.mem_filter.mpr ⟨List.mem_of_getElem? h.1, h.2⟩
def codeW (k : Nat) : Cond := if mH k = [] then .code (mY k) (mB k) (mL k) (mR k) else .codeWith (mY k) (mB k) (mL k) (mR k) (mH k)
def okC (k : Nat) : Bool := tb (mJ k).1 (codeW k) && tb (mJ k).2.1 (.initialized (mY k).cls) && (if mT k then tb (mJ k).2.2.1 (.static (mY k)) else (tb (mJ k).2.2.1 (.instanceMethod (mY k)) && ((mY k).name == "<init>" || tb (mJ k).2.2.2 (.selects (mY k).cls (mY k) (mY k))))) && decide ((mY k).cls ≠ "java/lang/invoke/MethodHandle") && decide ((mY k).cls ≠ "java/lang/invoke/VarHandle") && plainName (mY k).cls
def okRoom (m k : Nat) : Bool := decide (mF k + 1 ≤ mF m) && decide (8 + (mL k + 11) + mO k ≤ mO m)
def okPar (k n : Nat) : Bool := decide ((parseMethodDescriptor (mY k).desc).map (fun d => d.parameters.length) = some n)
def okF (m a b j e idx : Nat) (put : Bool) : Bool := match vwCl[a]? with
  | some r => decide (b < r.2.2) && tb j (.fieldLink (mY m).cls idx (if e = 10 then RJx4a65c else (r.2.1 b).1) (r.2.1 b).2.1 (r.2.1 b).2.2.1) && (decide (e ≠ 10) || decide (a = 0 ∧ b = 0)) && (!put || !(r.2.1 b).2.2.2 || (decide ((mY m).name = "<init>") && decide ((r.2.1 b).1 = (mY m).cls)))
  | none => false
def okN (m a b j idx : Nat) : Bool := match vwCl[a]? with
  | some r => decide (r.2.2 = b) && tb j (.classLink (mY m).cls idx r.1)
  | none => false
def okCast (m a j idx : Nat) : Bool := match vwCl[a]? with
  | some r => tb j (.classLink (mY m).cls idx r.1)
  | none => false
def okX (m pc a b j idx : Nat) : Bool := decide (mH m = []) && decide ((mY m).cls = "SheetMaker") && tb j (.classLink (mY m).cls idx (exN a)) && decide (decode (mB m) (pc + 3) = .ok (.dup, 1)) && decide (decode (mB m) (pc + 4) = .ok (.ldc (b % 1000), 2)) && decide (decode (mB m) (pc + 6) = .ok (.invokespecial (b / 1000), 3)) && decide (decode (mB m) (pc + 9) = .ok (.athrow, 1))
  && decide (6 ≤ mF m) && decide (90 ≤ mO m) && decide ((a, b / 1000) = (1, 99) ∨ (a, b / 1000) = (2, 220) ∨ (a, b / 1000) = (3, 60)) && (strW.any fun q => decide (q.1 = b % 1000))
def okW (m pc : Nat) (q : AI) : Bool := match q with
  | (i, len, a, b, j, e) => match i with
    | .getfield idx => decide (len = 3) && okF m a b j e idx false
    | .putfield idx => decide (len = 3) && okF m a b j e idx true
    | .invokevirtual idx => decide (len = 3) && decide (1 ≤ b) && decide (a < 107) && okC a && tb j (.methodLink (mY m).cls idx (mY a)) && !mT a && !((mY a).name == "<init>") && okPar a (b - 1) && okRoom m a && decide ((vwCl[mI a]?).map (fun r => r.1) = some (mY a).cls) && decide (mH a = [])
    | .invokespecial idx => decide (len = 3) && (if e = 2 then tb j (.methodLink (mY m).cls idx Lib.objectInit) && decide (1 ≤ mF m) && decide (20 ≤ mO m) else
        decide (1 ≤ b) && decide (a < 107) && okC a && (if e = 1 then decide (Cond.methodLinkNest (mY m).cls idx (mY a) "SheetMaker" ∈ nstW) else tb j (.methodLink (mY m).cls idx (mY a))) && !mT a && ((mY a).name == "<init>") && okPar a (b - 1) && okRoom m a && decide (mH a = []) && decide (mR a = none))
    | .invokestatic idx => decide (len = 3) && (if e = 3 then tb j (.methodLink (mY m).cls idx Lib.Math.abs.name) && decide (1 ≤ mF m) && decide (21 ≤ mO m) else if e = 4 then tb j (.methodLink (mY m).cls idx Lib.Math.max.name) && decide (1 ≤ mF m) && decide (21 ≤ mO m) else decide (a < 107) && okC a && (if e = 1 then decide (Cond.methodLinkNest (mY m).cls idx (mY a) "SheetMaker" ∈ nstW) && decide (mH a = []) else tb j (.methodLink (mY m).cls idx (mY a))) && mT a && okPar a b && okRoom m a)
    | .new idx => decide (len = 3) && (if e = 1 then okX m pc a b j idx else okN m a b j idx)
    | .anewarray idx => decide (len = 3) && tb j (.classLink (mY m).cls idx "java/lang/Object")
    | .ldc idx => decide (len = 2) && tb j (.constant (mY m).cls idx (nI a))
    | .ldc_w idx => decide (len = 3) && tb j (.constant (mY m).cls idx (nI a))
    | .getstatic idx => decide (len = 3) && tb j (.fieldLink (mY m).cls idx "java/util/ArrayList" "DEFAULTCAPACITY_EMPTY_ELEMENTDATA" "[Ljava/lang/Object;")
    | .checkcast idx => decide (len = 3) && okCast m a j idx
    | .ifCond _ off => decide (len = 3) && decide ((pc : Int) + off = (a : Int))
    | .if_icmp _ off => decide (len = 3) && decide ((pc : Int) + off = (a : Int))
    | .if_acmp _ off => decide (len = 3) && decide ((pc : Int) + off = (a : Int))
    | .goto off => decide (len = 3) && decide ((pc : Int) + off = (a : Int))
    | .newarray _ => decide (len = 2)
    | .iinc _ _ | .sipush _ => decide (len = 3)
    | .iload _ | .aload _ | .istore _ | .astore _ | .bipush _ => decide (len = 2)
    | .tableswitch dflt _ _ offs => decide (0 ≤ (pc : Int) + dflt) && offs.toList.all (fun o => decide (0 ≤ (pc : Int) + o))
    | .areturn => decide (len = 1) && (match mR m with | some (.object _) => true | some (.array _) => true | _ => false)
    | _ => decide (len = 1)
def okA (m pc : Nat) (q : AI) : Bool := decide (decode (mB m) pc = .ok (q.1, q.2.1)) && okW m pc q
def okM (m : Nat) : Bool := (cdL.getD m []).all (fun q => okA m q.1 q.2)
set_option maxRecDepth 100000 in
theorem okM_0 : okM 0 = true := by decide +kernel
set_option maxRecDepth 100000 in
theorem okM_1 : okM 1 = true := by decide +kernel
set_option maxRecDepth 100000 in
theorem okM_2 : okM 2 = true := by decide +kernel
set_option maxRecDepth 100000 in
theorem okM_3 : okM 3 = true := by decide +kernel
set_option maxRecDepth 100000 in
theorem okM_4 : okM 4 = true := by decide +kernel
set_option maxRecDepth 100000 in
theorem okM_5 : okM 5 = true := by decide +kernel
set_option maxRecDepth 100000 in
theorem okM_6 : okM 6 = true := by decide +kernel
set_option maxRecDepth 100000 in
theorem okM_7 : okM 7 = true := by decide +kernel
set_option maxRecDepth 100000 in
theorem okM_8 : okM 8 = true := by decide +kernel
set_option maxRecDepth 100000 in
theorem okM_9 : okM 9 = true := by decide +kernel
set_option maxRecDepth 100000 in
theorem okM_10 : okM 10 = true := by decide +kernel
set_option maxRecDepth 100000 in
theorem okM_11 : okM 11 = true := by decide +kernel
set_option maxRecDepth 100000 in
theorem okM_12 : okM 12 = true := by decide +kernel
set_option maxRecDepth 100000 in
theorem okM_13 : okM 13 = true := by decide +kernel
set_option maxRecDepth 100000 in
theorem okM_14 : okM 14 = true := by decide +kernel
set_option maxRecDepth 100000 in
theorem okM_15 : okM 15 = true := by decide +kernel
set_option maxRecDepth 100000 in
theorem okM_16 : okM 16 = true := by decide +kernel
set_option maxRecDepth 100000 in
theorem okM_17 : okM 17 = true := by decide +kernel
set_option maxRecDepth 100000 in
theorem okM_18 : okM 18 = true := by decide +kernel
set_option maxRecDepth 100000 in
theorem okM_19 : okM 19 = true := by decide +kernel
set_option maxRecDepth 100000 in
theorem okM_20 : okM 20 = true := by decide +kernel
set_option maxRecDepth 100000 in
theorem okM_21 : okM 21 = true := by decide +kernel
set_option maxRecDepth 100000 in
theorem okM_22 : okM 22 = true := by decide +kernel
set_option maxRecDepth 100000 in
theorem okM_23 : okM 23 = true := by decide +kernel
set_option maxRecDepth 100000 in
theorem okM_24 : okM 24 = true := by decide +kernel
set_option maxRecDepth 100000 in
theorem okM_25 : okM 25 = true := by decide +kernel
set_option maxRecDepth 100000 in
theorem okM_26 : okM 26 = true := by decide +kernel
set_option maxRecDepth 100000 in
theorem okM_27 : okM 27 = true := by decide +kernel
set_option maxRecDepth 100000 in
theorem okM_28 : okM 28 = true := by decide +kernel
set_option maxRecDepth 100000 in
theorem okM_29 : okM 29 = true := by decide +kernel
set_option maxRecDepth 100000 in
theorem okM_30 : okM 30 = true := by decide +kernel
set_option maxRecDepth 100000 in
theorem okM_31 : okM 31 = true := by decide +kernel
set_option maxRecDepth 100000 in
theorem okM_32 : okM 32 = true := by decide +kernel
set_option maxRecDepth 100000 in
theorem okM_33 : okM 33 = true := by decide +kernel
set_option maxRecDepth 100000 in
theorem okM_34 : okM 34 = true := by decide +kernel
set_option maxRecDepth 100000 in
theorem okM_35 : okM 35 = true := by decide +kernel
set_option maxRecDepth 100000 in
theorem okM_36 : okM 36 = true := by decide +kernel
set_option maxRecDepth 100000 in
theorem okM_37 : okM 37 = true := by decide +kernel
set_option maxRecDepth 100000 in
theorem okM_38 : okM 38 = true := by decide +kernel
set_option maxRecDepth 100000 in
theorem okM_39 : okM 39 = true := by decide +kernel
set_option maxRecDepth 100000 in
theorem okM_40 : okM 40 = true := by decide +kernel
set_option maxRecDepth 100000 in
theorem okM_41 : okM 41 = true := by decide +kernel
set_option maxRecDepth 100000 in
theorem okM_42 : okM 42 = true := by decide +kernel
set_option maxRecDepth 100000 in
theorem okM_43 : okM 43 = true := by decide +kernel
set_option maxRecDepth 100000 in
theorem okM_44 : okM 44 = true := by decide +kernel
set_option maxRecDepth 100000 in
theorem okM_45 : okM 45 = true := by decide +kernel
set_option maxRecDepth 100000 in
theorem okM_46 : okM 46 = true := by decide +kernel
set_option maxRecDepth 100000 in
theorem okM_47 : okM 47 = true := by decide +kernel
set_option maxRecDepth 100000 in
theorem okM_48 : okM 48 = true := by decide +kernel
set_option maxRecDepth 100000 in
theorem okM_49 : okM 49 = true := by decide +kernel
set_option maxRecDepth 100000 in
theorem okM_50 : okM 50 = true := by decide +kernel
set_option maxRecDepth 100000 in
theorem okM_51 : okM 51 = true := by decide +kernel
set_option maxRecDepth 100000 in
theorem okM_52 : okM 52 = true := by decide +kernel
set_option maxRecDepth 100000 in
theorem okM_53 : okM 53 = true := by decide +kernel
set_option maxRecDepth 100000 in
theorem okM_54 : okM 54 = true := by decide +kernel
set_option maxRecDepth 100000 in
theorem okM_55 : okM 55 = true := by decide +kernel
set_option maxRecDepth 100000 in
theorem okM_56 : okM 56 = true := by decide +kernel
set_option maxRecDepth 100000 in
theorem okM_57 : okM 57 = true := by decide +kernel
set_option maxRecDepth 100000 in
theorem okM_58 : okM 58 = true := by decide +kernel
set_option maxRecDepth 100000 in
theorem okM_59 : okM 59 = true := by decide +kernel
set_option maxRecDepth 100000 in
theorem okM_60 : okM 60 = true := by decide +kernel
set_option maxRecDepth 100000 in
theorem okM_61 : okM 61 = true := by decide +kernel
set_option maxRecDepth 100000 in
theorem okM_62 : okM 62 = true := by decide +kernel
set_option maxRecDepth 100000 in
theorem okM_63 : okM 63 = true := by decide +kernel
set_option maxRecDepth 100000 in
theorem okM_64 : okM 64 = true := by decide +kernel
set_option maxRecDepth 100000 in
theorem okM_65 : okM 65 = true := by decide +kernel
set_option maxRecDepth 100000 in
theorem okM_66 : okM 66 = true := by decide +kernel
set_option maxRecDepth 100000 in
theorem okM_67 : okM 67 = true := by decide +kernel
set_option maxRecDepth 100000 in
theorem okM_68 : okM 68 = true := by decide +kernel
set_option maxRecDepth 100000 in
theorem okM_69 : okM 69 = true := by decide +kernel
set_option maxRecDepth 100000 in
theorem okM_70 : okM 70 = true := by decide +kernel
set_option maxRecDepth 100000 in
theorem okM_71 : okM 71 = true := by decide +kernel
set_option maxRecDepth 100000 in
theorem okM_72 : okM 72 = true := by decide +kernel
set_option maxRecDepth 100000 in
theorem okM_73 : okM 73 = true := by decide +kernel
set_option maxRecDepth 100000 in
theorem okM_74 : okM 74 = true := by decide +kernel
set_option maxRecDepth 100000 in
theorem okM_75 : okM 75 = true := by decide +kernel
set_option maxRecDepth 100000 in
theorem okM_76 : okM 76 = true := by decide +kernel
set_option maxRecDepth 100000 in
theorem okM_77 : okM 77 = true := by decide +kernel
set_option maxRecDepth 100000 in
theorem okM_78 : okM 78 = true := by decide +kernel
set_option maxRecDepth 100000 in
theorem okM_79 : okM 79 = true := by decide +kernel
set_option maxRecDepth 100000 in
theorem okM_80 : okM 80 = true := by decide +kernel
set_option maxRecDepth 100000 in
theorem okM_81 : okM 81 = true := by decide +kernel
set_option maxRecDepth 100000 in
theorem okM_82 : okM 82 = true := by decide +kernel
set_option maxRecDepth 100000 in
theorem okM_83 : okM 83 = true := by decide +kernel
set_option maxRecDepth 100000 in
theorem okM_84 : okM 84 = true := by decide +kernel
set_option maxRecDepth 100000 in
theorem okM_85 : okM 85 = true := by decide +kernel
set_option maxRecDepth 100000 in
theorem okM_86 : okM 86 = true := by decide +kernel
set_option maxRecDepth 100000 in
theorem okM_87 : okM 87 = true := by decide +kernel
set_option maxRecDepth 100000 in
theorem okM_88 : okM 88 = true := by decide +kernel
set_option maxRecDepth 100000 in
theorem okM_89 : okM 89 = true := by decide +kernel
set_option maxRecDepth 100000 in
theorem okM_90 : okM 90 = true := by decide +kernel
set_option maxRecDepth 100000 in
theorem okM_91 : okM 91 = true := by decide +kernel
set_option maxRecDepth 100000 in
theorem okM_92 : okM 92 = true := by decide +kernel
set_option maxRecDepth 100000 in
theorem okM_93 : okM 93 = true := by decide +kernel
set_option maxRecDepth 100000 in
theorem okM_94 : okM 94 = true := by decide +kernel
set_option maxRecDepth 100000 in
theorem okM_95 : okM 95 = true := by decide +kernel
set_option maxRecDepth 100000 in
theorem okM_96 : okM 96 = true := by decide +kernel
set_option maxRecDepth 100000 in
theorem okM_97 : okM 97 = true := by decide +kernel
set_option maxRecDepth 100000 in
theorem okM_98 : okM 98 = true := by decide +kernel
set_option maxRecDepth 100000 in
theorem okM_99 : okM 99 = true := by decide +kernel
set_option maxRecDepth 100000 in
theorem okM_100 : okM 100 = true := by decide +kernel
set_option maxRecDepth 100000 in
theorem okM_101 : okM 101 = true := by decide +kernel
set_option maxRecDepth 100000 in
theorem okM_102 : okM 102 = true := by decide +kernel
set_option maxRecDepth 100000 in
theorem okM_103 : okM 103 = true := by decide +kernel
set_option maxRecDepth 100000 in
theorem okM_104 : okM 104 = true := by decide +kernel
set_option maxRecDepth 100000 in
theorem okM_105 : okM 105 = true := by decide +kernel
set_option maxRecDepth 100000 in
theorem okM_106 : okM 106 = true := by decide +kernel
set_option maxRecDepth 100000 in
theorem okM_107_0 : cd_107_0.all (fun q => okA 107 q.1 q.2) = true := by decide +kernel
set_option maxRecDepth 100000 in
theorem okM_107_1 : cd_107_1.all (fun q => okA 107 q.1 q.2) = true := by decide +kernel
set_option maxRecDepth 100000 in
theorem okM_107_2 : cd_107_2.all (fun q => okA 107 q.1 q.2) = true := by decide +kernel
set_option maxRecDepth 100000 in
theorem okM_107_3 : cd_107_3.all (fun q => okA 107 q.1 q.2) = true := by decide +kernel
set_option maxRecDepth 100000 in
theorem okM_107_4 : cd_107_4.all (fun q => okA 107 q.1 q.2) = true := by decide +kernel
set_option maxRecDepth 100000 in
theorem okM_107_5 : cd_107_5.all (fun q => okA 107 q.1 q.2) = true := by decide +kernel
set_option maxRecDepth 100000 in
theorem okM_107_6 : cd_107_6.all (fun q => okA 107 q.1 q.2) = true := by decide +kernel
set_option maxRecDepth 100000 in
theorem okM_107_7 : cd_107_7.all (fun q => okA 107 q.1 q.2) = true := by decide +kernel
set_option maxRecDepth 100000 in
theorem okM_107_8 : cd_107_8.all (fun q => okA 107 q.1 q.2) = true := by decide +kernel
set_option maxRecDepth 100000 in
theorem okM_107_9 : cd_107_9.all (fun q => okA 107 q.1 q.2) = true := by decide +kernel
set_option maxRecDepth 100000 in
theorem okM_107_10 : cd_107_10.all (fun q => okA 107 q.1 q.2) = true := by decide +kernel
set_option maxRecDepth 100000 in
theorem okM_107_11 : cd_107_11.all (fun q => okA 107 q.1 q.2) = true := by decide +kernel
theorem okM_107 : okM 107 = true := by
  have e : cdL.getD 107 [] = cd_107 := rfl
  unfold okM
  rw [e]
  simp only [cd_107, List.all_append, okM_107_0, okM_107_1, okM_107_2, okM_107_3, okM_107_4, okM_107_5, okM_107_6, okM_107_7, okM_107_8, okM_107_9, okM_107_10, okM_107_11, Bool.and_self]
theorem okM_all : ∀ m, okM m = true := by
  intro m
  by_cases h : m < 108
  · match m, h with
    | 0, _ => exact okM_0
    | 1, _ => exact okM_1
    | 2, _ => exact okM_2
    | 3, _ => exact okM_3
    | 4, _ => exact okM_4
    | 5, _ => exact okM_5
    | 6, _ => exact okM_6
    | 7, _ => exact okM_7
    | 8, _ => exact okM_8
    | 9, _ => exact okM_9
    | 10, _ => exact okM_10
    | 11, _ => exact okM_11
    | 12, _ => exact okM_12
    | 13, _ => exact okM_13
    | 14, _ => exact okM_14
    | 15, _ => exact okM_15
    | 16, _ => exact okM_16
    | 17, _ => exact okM_17
    | 18, _ => exact okM_18
    | 19, _ => exact okM_19
    | 20, _ => exact okM_20
    | 21, _ => exact okM_21
    | 22, _ => exact okM_22
    | 23, _ => exact okM_23
    | 24, _ => exact okM_24
    | 25, _ => exact okM_25
    | 26, _ => exact okM_26
    | 27, _ => exact okM_27
    | 28, _ => exact okM_28
    | 29, _ => exact okM_29
    | 30, _ => exact okM_30
    | 31, _ => exact okM_31
    | 32, _ => exact okM_32
    | 33, _ => exact okM_33
    | 34, _ => exact okM_34
    | 35, _ => exact okM_35
    | 36, _ => exact okM_36
    | 37, _ => exact okM_37
    | 38, _ => exact okM_38
    | 39, _ => exact okM_39
    | 40, _ => exact okM_40
    | 41, _ => exact okM_41
    | 42, _ => exact okM_42
    | 43, _ => exact okM_43
    | 44, _ => exact okM_44
    | 45, _ => exact okM_45
    | 46, _ => exact okM_46
    | 47, _ => exact okM_47
    | 48, _ => exact okM_48
    | 49, _ => exact okM_49
    | 50, _ => exact okM_50
    | 51, _ => exact okM_51
    | 52, _ => exact okM_52
    | 53, _ => exact okM_53
    | 54, _ => exact okM_54
    | 55, _ => exact okM_55
    | 56, _ => exact okM_56
    | 57, _ => exact okM_57
    | 58, _ => exact okM_58
    | 59, _ => exact okM_59
    | 60, _ => exact okM_60
    | 61, _ => exact okM_61
    | 62, _ => exact okM_62
    | 63, _ => exact okM_63
    | 64, _ => exact okM_64
    | 65, _ => exact okM_65
    | 66, _ => exact okM_66
    | 67, _ => exact okM_67
    | 68, _ => exact okM_68
    | 69, _ => exact okM_69
    | 70, _ => exact okM_70
    | 71, _ => exact okM_71
    | 72, _ => exact okM_72
    | 73, _ => exact okM_73
    | 74, _ => exact okM_74
    | 75, _ => exact okM_75
    | 76, _ => exact okM_76
    | 77, _ => exact okM_77
    | 78, _ => exact okM_78
    | 79, _ => exact okM_79
    | 80, _ => exact okM_80
    | 81, _ => exact okM_81
    | 82, _ => exact okM_82
    | 83, _ => exact okM_83
    | 84, _ => exact okM_84
    | 85, _ => exact okM_85
    | 86, _ => exact okM_86
    | 87, _ => exact okM_87
    | 88, _ => exact okM_88
    | 89, _ => exact okM_89
    | 90, _ => exact okM_90
    | 91, _ => exact okM_91
    | 92, _ => exact okM_92
    | 93, _ => exact okM_93
    | 94, _ => exact okM_94
    | 95, _ => exact okM_95
    | 96, _ => exact okM_96
    | 97, _ => exact okM_97
    | 98, _ => exact okM_98
    | 99, _ => exact okM_99
    | 100, _ => exact okM_100
    | 101, _ => exact okM_101
    | 102, _ => exact okM_102
    | 103, _ => exact okM_103
    | 104, _ => exact okM_104
    | 105, _ => exact okM_105
    | 106, _ => exact okM_106
    | 107, _ => exact okM_107
    | _ + 108, h => exact absurd h (by omega)
  · have e : cdL.getD m [] = [] := by
      rw [List.getD_eq_getElem?_getD, List.getElem?_eq_none (by have : cdL.length = 108 := by decide +kernel
                                                                omega)]
      rfl
    unfold okM
    rw [e]
    rfl
theorem mw_abs : ∀ w ∈ [Cond.static Lib.Math.abs.name, Cond.initialized "java/lang/Math", Cond.code Lib.Math.abs.name Lib.Math.abs.code 1 (some .int)], w ∈ Tb := by
  have h : ([Cond.static Lib.Math.abs.name, Cond.initialized "java/lang/Math", Cond.code Lib.Math.abs.name Lib.Math.abs.code 1 (some .int)].all fun w => decide (w ∈ lw_tbl) && goodWord w) = true := by decide +kernel
  intro w hw
  have h2 := List.all_eq_true.mp h w hw
  simp only [Bool.and_eq_true, decide_eq_true_eq] at h2
  exact List.mem_filter.mpr h2
theorem mw_max : ∀ w ∈ [Cond.static Lib.Math.max.name, Cond.initialized "java/lang/Math", Cond.code Lib.Math.max.name Lib.Math.max.code 2 (some .int)], w ∈ Tb := by
  have h : ([Cond.static Lib.Math.max.name, Cond.initialized "java/lang/Math", Cond.code Lib.Math.max.name Lib.Math.max.code 2 (some .int)].all fun w => decide (w ∈ lw_tbl) && goodWord w) = true := by decide +kernel
  intro w hw
  have h2 := List.all_eq_true.mp h w hw
  simp only [Bool.and_eq_true, decide_eq_true_eq] at h2
  exact List.mem_filter.mpr h2
theorem lookup_mem {α : Type} : ∀ (l : List (Nat × α)) (k : Nat) (a : α), l.lookup k = some a → (k, a) ∈ l
  | [], k, a, h => by cases h
  | (k', a') :: l, k, a, h => by
    rw [List.lookup_cons] at h
    by_cases e : k = k'
    · subst e
      simp at h
      rw [h]
      exact List.mem_cons_self
    · rw [show (k == k') = false from beq_false_of_ne e] at h
      exact List.mem_cons_of_mem _ (lookup_mem l k a h)
theorem ok_at {m pc : Nat} {q : AI} (h : cdAt m pc = some q) : decode (mB m) pc = .ok (q.1, q.2.1) ∧ okW m pc q = true := by
  have h1 := List.all_eq_true.mp (okM_all m) _ (lookup_mem _ _ _ h)
  simp only [okA, Bool.and_eq_true, decide_eq_true_eq] at h1
  exact h1
