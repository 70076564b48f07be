/-! the start: the tables' words, what nobody writes, the law's walk out of the small machine -/
def sW1 : Bool := (nstW ++ dcW).all fun w => decide (w ∈ lw_tbl) && w.onTables
theorem sW1_ok : sW1 = true := by decide +kernel
def sW2 : Bool := strW.all fun q => decide (Cond.stringRef "SheetMaker" q.1 q.2 ∈ lw_tbl)
theorem sW2_ok : sW2 = true := by decide +kernel
def sW3 : Bool := strW.all fun q => decide (Cond.exactly (.string "SheetMaker" q.1) "java/lang/String" ∈ flatC (Jvm.Cond.and given_1 narrow_1))
theorem sW3_ok : sW3 = true := by decide +kernel
def sW4 : Bool := ncX.all fun q => decide (Cond.not (.castable q.1 q.2) ∈ flatC (Jvm.Cond.and given_1 narrow_1))
theorem sW4_ok : sW4 = true := by decide +kernel
theorem arr_known {args : Array Value} {s : State} {ty : FieldType} (h : (Cond.arrayClass ty).before args s = true) : ∃ c : ClassId, ArrOfT s c ty ∧ s.vm.findClass ("[" ++ ty.toString) = some c := by
  obtain ⟨c, k, comp, h1, h2, h3⟩ := Cond.arrayClass_spec h
  exact ⟨c, fun n z => ⟨fun k h => (by cases h), k, h2, comp, h3⟩, h1⟩
theorem env_start {args : Array Value} {s : State} {b L : Nat} {xs : Nat → Int32} (hts : ∀ w ∈ lw_tbl, w.before args s = true) (hgv : (Jvm.Cond.and given_1 narrow_1).before args s = true) (hX : va_X b L xs s s.heap) (hbl : b < s.heap.size) :
    ∃ (x : Cx) (D : va_G), WEnv x D s.heap.size s ∧ xB x = b ∧ xN x = L ∧ xS x = xs ∧ xB x ≠ xE x := by
  have hfl := flat_of_before _ hgv
  have hA : ∀ a : Nat, a < s.heap.size → ¬ AA s.heap.size a := fun a h => Nat.not_le.mpr h
  obtain ⟨cI, aI, nI'⟩ := arr_known (hts (.arrayClass .int) (by decide +kernel))
  have hAO : (Cond.arrayOver (.object "java/lang/Object")).before args s = true := hts _ (by decide +kernel)
  obtain ⟨comp, cQ, kQ, f1, -, f3, f4, f5⟩ := Cond.arrayOver_spec hAO
  have aQ : ArrOfT s cQ (.object "java/lang/Object") := fun n z => ⟨fun k h => (by cases h), kQ, f3, comp, f4⟩
  obtain ⟨e, he, hT⟩ := va_Tof (A := AA s.heap.size) (N := 0) (f := fun _ => .null) (tm := .static "java/util/ArrayList" "DEFAULTCAPACITY_EMPTY_ELEMENTDATA" "[Ljava/lang/Object;") (ty := .object "java/lang/Object") (by decide) (hfl _ (by decide +kernel)) (va_eqt (z := 0) (hfl (.eq (.length (.static "java/util/ArrayList" "DEFAULTCAPACITY_EMPTY_ELEMENTDATA" "[Ljava/lang/Object;")) (.int 0)) (by decide +kernel))) (fun j hj => absurd hj (Nat.not_lt_zero j)) hA
  have hZ := va_Zref (A := AA s.heap.size) (hts (.laysStatic "java/util/ArrayList" "DEFAULTCAPACITY_EMPTY_ELEMENTDATA" "[Ljava/lang/Object;") (by decide +kernel)) (hts (.initialized "java/util/ArrayList") (by decide +kernel)) he hA
  have key : ∀ k : Nat, ∃ (cC : ClassId) (iS : Nat → Nat), ∀ r : vw_C, vwCl[k]? = some r → u_Kn s r.1 r.2.1 r.2.2 cC iS := by
    intro k
    cases hq : vwCl[k]? with
    | none => exact ⟨0, fun _ => 0, fun r h => by cases h⟩
    | some r =>
      obtain ⟨cC, iS, h⟩ := u_known (C := r.1) (T := r.2.1) (N := r.2.2) hts (fun w hw => (List.mem_filter.mp (cl_in hq w hw)).1) (hts _ (List.mem_filter.mp (cl_new hq).1).1)
      exact ⟨cC, iS, fun r' h' => by cases h'; exact h⟩
  have hbe : b ≠ e := by
    intro q
    subst q
    obtain ⟨c1, h1, ⟨-, k1, h2, p1, h3⟩, -⟩ := hX
    obtain ⟨c2, g1, ⟨-, k2, g2, p2, g3⟩, -⟩ := hT
    cases h1.symm.trans g1
    cases h2.symm.trans g2
    cases h3.symm.trans g3
  refine ⟨((cI, cI, cI, cQ), (e, b, L, xs)), (fun k => (key k).choose, fun k => (key k).choose_spec.choose), ⟨⟨fun k r hr => (key k).choose_spec.choose_spec r hr, fun k q hq => ?_⟩, fun w hw => ?_, fun q hq => ?_, va_AO.of hAO, fun q hq => ?_, ?_, ?_, hZ, hT, hX, hbl, Nat.le_refl _⟩, rfl, rfl, rfl, hbe⟩
  · match k, hq with
    | 0, hq => cases hq; exact ⟨aI, nI'⟩
    | 1, hq => cases hq; exact ⟨aI, nI'⟩
    | 2, hq => cases hq; exact ⟨aI, nI'⟩
    | 3, hq => cases hq; exact ⟨aQ, kQ, comp, f3, f4, f1, f5⟩
    | k + 4, hq => simp at hq
  · have h := List.all_eq_true.mp sW1_ok w (List.mem_append.mpr hw)
    simp only [Bool.and_eq_true, decide_eq_true_eq] at h
    exact va_Nw.of h.2 (hts w h.1)
  · have h1 := List.all_eq_true.mp sW2_ok q hq
    have h2 := List.all_eq_true.mp sW3_ok q hq
    simp only [decide_eq_true_eq] at h1 h2
    obtain ⟨a, -, -, -, ha, -⟩ := Cond.exactly_spec (hfl _ h2)
    exact ⟨a, vk_R.of (hts _ h1) ha⟩
  · have h := List.all_eq_true.mp sW4_ok q hq
    simp only [decide_eq_true_eq] at h
    exact va_Nc.of (hfl _ h)
  · exact vx_Zqof (hts _ (by decide +kernel)) (hts _ (by decide +kernel)) (hfl _ (by decide +kernel)) hA
  · exact vx_Zqof (hts _ (by decide +kernel)) (hts _ (by decide +kernel)) (hfl _ (by decide +kernel)) hA
