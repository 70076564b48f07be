/-! What holds of the machine's tables and of the cells that nobody writes; worlds in the heap; locals. -/
abbrev AA (B0 : Nat) : Nat → Prop := fun q => B0 ≤ q
def GW (D : va_G) (B0 : Nat) (w : Wd) (H : Heap) : Prop := ∀ (a : Nat) (e : va_E), w a = some e → va_at D vwCl (a, e) H ∧ B0 ≤ a
abbrev tysX (x : Cx) : List (ClassId × FieldType) := [(x.1.1, .int), (x.1.1, .int), (x.1.1, .int), (x.1.2.2.2, .object "java/lang/Object")]
def dcW : List Cond := [.declares ({ cls := "java/lang/RuntimeException", name := "<init>", desc := "()V" } : Jvm.MethodName), .declares ({ cls := "java/lang/RuntimeException", name := "<init>", desc := "(Ljava/lang/String;)V" } : Jvm.MethodName), .declares ({ cls := "java/lang/Exception", name := "<init>", desc := "()V" } : Jvm.MethodName), .declares ({ cls := "java/lang/Exception", name := "<init>", desc := "(Ljava/lang/String;)V" } : Jvm.MethodName), .declares ({ cls := "java/lang/Throwable", name := "<init>", desc := "()V" } : Jvm.MethodName), .declares ({ cls := "java/lang/Throwable", name := "<init>", desc := "(Ljava/lang/String;)V" } : Jvm.MethodName), .declares ({ cls := "java/lang/Object", name := "getClass", desc := "()Ljava/lang/Class;" } : Jvm.MethodName)]
def ncX : List (String × String) := [(exN 1, exN 3), (exN 2, exN 3)]
def WEnv (x : Cx) (D : va_G) (B0 : Nat) (U : State) : Prop :=
  va_K D vwCl (tysX x) U ∧ (∀ w, w ∈ nstW ∨ w ∈ dcW → va_Nw w U) ∧ (∀ q ∈ strW, ∃ a, vk_R "SheetMaker" q.1 q.2 a U) ∧ va_AO "java/lang/Object" U ∧ (∀ q ∈ ncX, va_Nc q.1 q.2 U) ∧
  vx_Zq Bundle.tN "UNASSIGNED_STACK" Bundle.steD (AA B0) U U.heap ∧ vx_Zq Bundle.tN "SUPPRESSED_SENTINEL" Bundle.listD (AA B0) U U.heap ∧
  va_Z "java/util/ArrayList" "DEFAULTCAPACITY_EMPTY_ELEMENTDATA" "[Ljava/lang/Object;" (.ref (xE x)) (AA B0) U U.heap ∧
  va_T (.object "java/lang/Object") (xE x) 0 (fun _ => .null) (AA B0) U U.heap ∧ va_X (xB x) (xN x) (xS x) U U.heap ∧ xB x < B0 ∧ B0 ≤ U.heap.size
def isNC : Cond → Bool
  | .methodLinkNest .. => true
  | .castable .. => true
  | .declares _ => true
  | _ => false
theorem nstW_NC : (nstW ++ dcW).all isNC = true := by decide +kernel
theorem va_Nw.warmNC {w : Cond} (hw : isNC w = true) {s U : State} (hW : s.WarmedH U.vm) (h : va_Nw w s) : va_Nw w U := by
  cases w <;> first | exact va_Nw.warmM hW h | exact va_Nw.warmC hW h | exact va_Nw.warmD hW h | cases hw
theorem WEnv.move {x : Cx} {D : va_G} {B0 : Nat} {s U : State} (h : WEnv x D B0 s) (hW : s.WarmedH U.vm) (hz : s.heap.size ≤ U.heap.size) (hq : ∀ q : Nat, q < s.heap.size → ¬ B0 ≤ q → U.heap[q]? = s.heap[q]?) : WEnv x D B0 U := by
  obtain ⟨a1, a2, a3, a4, a5, a6, a7, a8, a9, a10, a11, a12⟩ := h
  have hal := hW.alike
  refine ⟨a1.moved hal, fun w hw => va_Nw.warmNC (List.all_eq_true.mp nstW_NC w (List.mem_append.mpr hw)) hW (a2 w hw), fun q hq => ?_, a4.moved hal, fun q hq => (a5 q hq).moved hal, (a6.moved hal).kept hq, (a7.moved hal).kept hq, (a8.moved hal).kept hq, (a9.moved hal).kept hq, (a10.moved hal).kept (hq _ (Nat.lt_of_lt_of_le a11 a12) (Nat.not_le.mpr a11)), a11, Nat.le_trans a12 hz⟩
  obtain ⟨a, ha⟩ := a3 q hq
  exact ⟨a, ha.warm hW⟩
section
variable {D : va_G} {B0 : Nat} {w : Wd} {H H1 : Heap}
theorem GW.lt (h : GW D B0 w H) {a : Nat} {e : va_E} (ha : w a = some e) : a < H.size := (h a e ha).1.lt
theorem GW.set (h : GW D B0 w H) {a : Nat} {e : va_E} (hb : B0 ≤ a) (he : va_at D vwCl (a, e) H1) (oq : ∀ q : Nat, q ≠ a → H1[q]? = H[q]?) : GW D B0 (va_up w a (some e)) H1 := by
  intro b f hf
  by_cases hba : b = a
  · subst hba
    simp only [va_up, if_true] at hf
    cases hf
    exact ⟨he, hb⟩
  · simp only [va_up, if_neg hba] at hf
    exact ⟨(h b f hf).1.kept (oq b hba), (h b f hf).2⟩
theorem GW.add (h : GW D B0 w H) {e : va_E} (hb : B0 ≤ H.size) (he : va_at D vwCl (H.size, e) H1) (oq : ∀ q : Nat, q < H.size → H1[q]? = H[q]?) : GW D B0 (va_up w H.size (some e)) H1 := by
  intro b f hf
  by_cases hba : b = H.size
  · subst hba
    simp only [va_up, if_true] at hf
    cases hf
    exact ⟨he, hb⟩
  · simp only [va_up, if_neg hba] at hf
    exact ⟨(h b f hf).1.kept (oq b (h.lt hf)), (h b f hf).2⟩
theorem GW.new (h : GW D B0 w H) : w H.size = none := by
  cases hw : w H.size with
  | none => rfl
  | some e => exact absurd (h.lt hw) (Nat.lt_irrefl _)
end
/-- the locals: as many as the method has; those that are known -/
def lvR (ls : Array Slot) (nL : Nat) (L : Lc) : Prop := L.length = nL ∧ ls.size = nL ∧ lv_wf ls ∧ ∀ (i : Nat) (v : Value), L[i]? = some (some v) → v.category = 1 ∧ ls[i]? = some (.val v)
def lvP (L : Lc) : List (Nat × Value) := (List.range L.length).filterMap fun i => match L[i]? with
  | some (some v) => some (i, v)
  | _ => none
theorem lvP_mem {L : Lc} {i : Nat} {v : Value} : (i, v) ∈ lvP L ↔ L[i]? = some (some v) := by
  unfold lvP
  rw [List.mem_filterMap]
  constructor
  · rintro ⟨j, -, hj⟩
    split at hj
    · rename_i u hu
      cases hj
      exact hu
    · cases hj
  · intro h
    exact ⟨i, List.mem_range.mpr (List.getElem?_eq_some_iff.mp h).1, by rw [h]⟩
theorem lvR.has {ls : Array Slot} {nL : Nat} {L : Lc} (h : lvR ls nL L) : lv_has ls nL (lvP L) := ⟨h.2.1, h.2.2.1, fun q hq => (h.2.2.2 q.1 q.2 (lvP_mem.mp hq)).2⟩
theorem lvR.put {ls ls' : Array Slot} {nL : Nat} {L : Lc} {i : Nat} {v : Value} (h : lvR ls nL L) (hc : v.category = 1) (h' : lv_has ls' nL ((i, v) :: (lvP L).filter (fun q => !(q.1 == i) && !(q.1 + 1 == i && q.2.category == 2)))) : lvR ls' nL (L.set i (some v)) := by
  refine ⟨by rw [List.length_set]; exact h.1, h'.1, h'.2.1, fun j u hj => ?_⟩
  by_cases e : i = j
  · subst e
    have hl : i < L.length := by
      have := (List.getElem?_eq_some_iff.mp hj).1
      simpa using this
    rw [List.getElem?_set_self hl] at hj
    cases hj
    exact ⟨hc, h'.2.2 (i, v) List.mem_cons_self⟩
  · rw [List.getElem?_set_ne e] at hj
    have h1 := h.2.2.2 j u hj
    refine ⟨h1.1, h'.2.2 (j, u) (List.mem_cons_of_mem _ (List.mem_filter.mpr ⟨lvP_mem.mpr hj, ?_⟩))⟩
    have e1 : (j == i) = false := beq_false_of_ne (fun q => e q.symm)
    have e2 : (u.category == 2) = false := by rw [h1.1]; rfl
    simp [e1, e2]
theorem qlI_e {L : Lc} {i : Nat} {K : Int32 → Prop} (h : qlI L i K) : ∃ x, L[i]? = some (some (.int x)) ∧ K x := by
  unfold qlI at h; split at h
  · exact ⟨_, by assumption, h⟩
  · exact h.elim
theorem qlA_e {L : Lc} {i : Nat} {K : Value → Prop} (h : qlA L i K) : (∃ a, L[i]? = some (some (.ref a)) ∧ K (.ref a)) ∨ (L[i]? = some (some .null) ∧ K .null) := by
  unfold qlA at h; split at h
  · exact Or.inl ⟨_, by assumption, h⟩
  · exact Or.inr ⟨by assumption, h⟩
  · exact h.elim
section
variable {S : List Value}
theorem qs1_e {K : Int32 → List Value → Prop} (h : qs1 S K) : ∃ a S', S = .int a :: S' ∧ K a S' := by
  unfold qs1 at h; split at h
  · exact ⟨_, _, rfl, h⟩
  · exact h.elim
theorem qs2_e {K : Int32 → Int32 → List Value → Prop} (h : qs2 S K) : ∃ a b S', S = .int b :: .int a :: S' ∧ K a b S' := by
  unfold qs2 at h; split at h
  · exact ⟨_, _, _, rfl, h⟩
  · exact h.elim
theorem qsr_e {K : Nat → List Value → Prop} (h : qsr S K) : ∃ a S', S = .ref a :: S' ∧ K a S' := by
  unfold qsr at h; split at h
  · exact ⟨_, _, rfl, h⟩
  · exact h.elim
theorem qsv_e {K : Value → List Value → Prop} (h : qsv S K) : ∃ v S', S = v :: S' ∧ v.category = 1 ∧ ((∃ z, v = .int z) ∨ v = .null ∨ ∃ z, v = .ref z) ∧ K v S' := by
  unfold qsv at h; split at h
  · exact ⟨_, _, rfl, rfl, Or.inl ⟨_, rfl⟩, h⟩
  · exact ⟨_, _, rfl, rfl, Or.inr (Or.inr ⟨_, rfl⟩), h⟩
  · exact ⟨_, _, rfl, rfl, Or.inr (Or.inl rfl), h⟩
  · exact h.elim
theorem qsir_e {K : Int32 → Nat → List Value → Prop} (h : qsir S K) : ∃ i o S', S = .int i :: .ref o :: S' ∧ K i o S' := by
  unfold qsir at h; split at h
  · exact ⟨_, _, _, rfl, h⟩
  · exact h.elim
theorem qsiir_e {K : Int32 → Int32 → Nat → List Value → Prop} (h : qsiir S K) : ∃ v i o S', S = .int v :: .int i :: .ref o :: S' ∧ K v i o S' := by
  unfold qsiir at h; split at h
  · exact ⟨_, _, _, _, rfl, h⟩
  · exact h.elim
theorem qslir_e {K : Int64 → Int32 → Nat → List Value → Prop} (h : qslir S K) : ∃ v i o S', S = .long v :: .int i :: .ref o :: S' ∧ K v i o S' := by
  unfold qslir at h; split at h
  · exact ⟨_, _, _, _, rfl, h⟩
  · exact h.elim
theorem qsrir_e {K : Nat → Int32 → Nat → List Value → Prop} (h : qsrir S K) : ∃ v i o S', S = .ref v :: .int i :: .ref o :: S' ∧ K v i o S' := by
  unfold qsrir at h; split at h
  · exact ⟨_, _, _, _, rfl, h⟩
  · exact h.elim
theorem qsvr_e {K : Value → Nat → List Value → Prop} (h : qsvr S K) : ∃ v o S', S = v :: .ref o :: S' ∧ K v o S' := by
  unfold qsvr at h; split at h
  · exact ⟨_, _, _, rfl, h⟩
  · exact h.elim
theorem qsrr_e {K : Nat → Nat → List Value → Prop} (h : qsrr S K) : ∃ a b S', S = .ref b :: .ref a :: S' ∧ K a b S' := by
  unfold qsrr at h; split at h
  · exact ⟨_, _, _, rfl, h⟩
  · exact h.elim
theorem qsll_e {K : Int64 → Int64 → List Value → Prop} (h : qsll S K) : ∃ a b S', S = .long b :: .long a :: S' ∧ K a b S' := by
  unfold qsll at h; split at h
  · exact ⟨_, _, _, rfl, h⟩
  · exact h.elim
theorem qsn_e {P : Prop} (h : qsn S P) : S = [] ∧ P := by
  unfold qsn at h; split at h
  · exact ⟨rfl, h⟩
  · exact h.elim
theorem qwO_e {e : Option va_E} {ci : Nat} {K : List Value → Prop} (h : qwO e ci K) : ∃ fs, e = some (.inr (ci, fs)) ∧ K fs := by
  unfold qwO at h; split at h
  · obtain ⟨h1, h2⟩ := h
    subst h1
    exact ⟨_, rfl, h2⟩
  · exact h.elim
theorem qwK_e {e : Option va_E} {ci : Nat} (h : qwK e ci) : ∃ fs, e = some (.inr (ci, fs)) := by
  unfold qwK at h; split at h
  · subst h
    exact ⟨_, rfl⟩
  · exact h.elim
theorem qwV_e {fs : List Value} {k : Nat} {K : Value → Prop} (h : qwV fs k K) : ∃ v, fs[k]? = some v ∧ K v := by
  unfold qwV at h; split at h
  · exact ⟨_, by assumption, h⟩
  · exact h.elim
theorem qwI_e {e : Option va_E} {c : ClassId} {K : Nat → (Nat → Int32) → Prop} (h : qwI e c K) : ∃ n f, e = some (.inl (c, n, .inl f)) ∧ K n f := by
  unfold qwI at h; split at h
  · obtain ⟨h1, h2⟩ := h
    subst h1
    exact ⟨_, _, rfl, h2⟩
  · exact h.elim
theorem qwL_e {x : Cx} {e : Option va_E} {o : Nat} {K : Nat → (Nat → Int32) → Prop} (h : qwL x e o K) : (o = xB x ∧ K (xN x) (xS x)) ∨ ∃ n f, e = some (.inl (x.1.1, n, .inl f)) ∧ K n f := by
  unfold qwL at h; split at h
  · exact Or.inl h
  · obtain ⟨h1, h2⟩ := h
    subst h1
    exact Or.inr ⟨_, _, rfl, h2⟩
  · exact h.elim
theorem qwJ_e {e : Option va_E} {c : ClassId} {K : Nat → (Nat → Int64) → Prop} (h : qwJ e c K) : ∃ n f, e = some (.inl (c, n, .inr (.inl f))) ∧ K n f := by
  unfold qwJ at h; split at h
  · obtain ⟨h1, h2⟩ := h
    subst h1
    exact ⟨_, _, rfl, h2⟩
  · exact h.elim
theorem qwQ_e {e : Option va_E} {c : ClassId} {K : Nat → (Nat → Option Nat) → Prop} (h : qwQ e c K) : ∃ n f, e = some (.inl (c, n, .inr (.inr (.inr (.inr f))))) ∧ K n f := by
  unfold qwQ at h; split at h
  · obtain ⟨h1, h2⟩ := h
    subst h1
    exact ⟨_, _, rfl, h2⟩
  · exact h.elim
theorem qwA_e {x : Cx} {e : Option va_E} {o : Nat} {K : Nat → Prop} (h : qwA x e o K) : (o = xE x ∧ K 0) ∨ (o = xB x ∧ K (xN x)) ∨ (∃ (n : Nat) (f : (Nat → Int32) ⊕ (Nat → Int64) ⊕ (Nat → UInt32) ⊕ (Nat → UInt64) ⊕ (Nat → Option Nat)) (t0 : Nat) (ty : ClassId × FieldType), (tysX x)[t0]? = some ty ∧ e = some (.inl (ty.1, n, f)) ∧ K n) := by
  unfold qwA at h; split at h
  · split at h
    · exact Or.inl ⟨by assumption, h⟩
    · exact Or.inr (Or.inl h)
  · obtain ⟨h1, h2⟩ := h
    exact Or.inr (Or.inr ⟨_, _, 0, (x.1.1, .int), rfl, by rw [h1]; rfl, h2⟩)
  · obtain ⟨h1, h2⟩ := h
    exact Or.inr (Or.inr ⟨_, _, 3, (x.1.2.2.2, .object "java/lang/Object"), rfl, by rw [h1]; rfl, h2⟩)
  · exact h.elim
theorem qty_e {ty : FieldType} {v : Value} {P : Prop} (h : qty ty v P) : narrow ty v = v ∧ fits ty v = true ∧ P := by
  unfold qty at h; split at h
  · exact ⟨rfl, rfl, h⟩
  · obtain ⟨h1 | h1, h2⟩ := h <;> subst h1 <;> exact ⟨by decide +kernel, by decide +kernel, h2⟩
  · exact ⟨rfl, rfl, h⟩
  · exact ⟨rfl, rfl, h⟩
  · exact ⟨rfl, rfl, h⟩
  · exact ⟨rfl, rfl, h⟩
  · exact h.elim
theorem qrt_e {r : Option FieldType} {v : Int32} {P : Prop} (h : qrt r v P) : (r = some .int ∨ (r = some .boolean ∧ (v = 0 ∨ v = 1))) ∧ P := by
  unfold qrt at h; split at h
  · exact ⟨Or.inl rfl, h⟩
  · exact ⟨Or.inr ⟨rfl, h.1⟩, h.2⟩
  · exact h.elim
theorem qtk_e {K : List Value → List Value → Prop} : ∀ (n : Nat) (S acc : List Value), qtk n S acc K → ∃ As rest, S = As.reverse ++ rest ∧ As.length = n ∧ K (As ++ acc) rest
  | 0, S, acc, h => ⟨[], S, rfl, rfl, h⟩
  | n + 1, v :: S, acc, h => by
    obtain ⟨As, rest, h1, h2, h3⟩ := qtk_e n S (v :: acc) h
    exact ⟨As ++ [v], rest, by simp [h1], by simp [h2], by simpa using h3⟩
  | _ + 1, [], _, h => h.elim
theorem cat1_e {v : Value} (h : cat1 v = true) : v.category = 1 := by cases v <;> first | rfl | cases h
theorem rest8 : ∀ (S : List Value), S.length ≤ 4 → (S.map fun v => v.category).sum ≤ 8 := by
  have key : ∀ (S : List Value), (S.map fun v => v.category).sum ≤ 2 * S.length := by
    intro S
    induction S with
    | nil => simp
    | cons v S ih =>
      have hv : v.category ≤ 2 := by cases v <;> simp [Value.category]
      simp only [List.map_cons, List.sum_cons, List.length_cons]
      omega
  intro S h
  have := key S
  omega
end
/-- the classes of the worlds, by their places -/
theorem cl_uw : (vwCl.all fun r => (u_ws r.1 r.2.1 r.2.2).all fun w => decide (w ∈ lw_tbl) && goodWord w) = true := by decide +kernel
theorem cl_in {ci : Nat} {r : vw_C} (h : vwCl[ci]? = some r) : ∀ w ∈ u_ws r.1 r.2.1 r.2.2, w ∈ Tb := by
  intro w hw
  have h1 := List.all_eq_true.mp (List.all_eq_true.mp cl_uw r (List.mem_of_getElem? h)) w hw
  simp only [Bool.and_eq_true, decide_eq_true_eq] at h1
  exact List.mem_filter.mpr h1
theorem cl_ty {ci : Nat} {r : vw_C} (h : vwCl[ci]? = some r) : (∀ k, k < r.2.2 → parseFieldDescriptor (r.2.1 k).2.2.1 = some (fty ci k)) ∧ (∀ a, a < r.2.2 → ∀ b, b < r.2.2 → a ≠ b → (r.2.1 a).2.1 ≠ (r.2.1 b).2.1) ∧ fN ci = r.2.2 := by
  match ci, h with
  | 0, h => cases h; exact ⟨tyJx4a65c_ok, nmJx4a65c, rfl⟩
  | 1, h => cases h; exact ⟨tyX0_ok, nmX0, rfl⟩
  | 2, h => cases h; exact ⟨tyX1_ok, nmX1, rfl⟩
  | 3, h => cases h; exact ⟨tyX2_ok, nmX2, rfl⟩
  | 4, h => cases h; exact ⟨tyX3_ok, nmX3, rfl⟩
  | 5, h => cases h; exact ⟨tyX4_ok, nmX4, rfl⟩
  | 6, h => cases h; exact ⟨tyX5_ok, nmX5, rfl⟩
  | 7, h => cases h; exact ⟨tyX6_ok, nmX6, rfl⟩
  | n + 8, h => simp [vwCl] at h
def clW : Bool := vwCl.all fun r => decide (Cond.instantiable r.1 r.2.2 ∈ lw_tbl) && decide (Cond.initialized r.1 ∈ lw_tbl) && goodWord (.instantiable r.1 r.2.2) && goodWord (.initialized r.1)
theorem clW_ok : clW = true := by decide +kernel
theorem cl_new {ci : Nat} {r : vw_C} (h : vwCl[ci]? = some r) : Cond.instantiable r.1 r.2.2 ∈ Tb ∧ Cond.initialized r.1 ∈ Tb := by
  have h1 := List.all_eq_true.mp clW_ok r (List.mem_of_getElem? h)
  simp only [Bool.and_eq_true, decide_eq_true_eq] at h1
  obtain ⟨⟨⟨h1, h2⟩, h3⟩, h4⟩ := h1
  exact ⟨List.mem_filter.mpr ⟨h1, h3⟩, List.mem_filter.mpr ⟨h2, h4⟩⟩
theorem arW : Cond.arrayClass (newarray.typeOf .int) ∈ Tb := by
  have h1 : (decide (Cond.arrayClass (newarray.typeOf .int) ∈ lw_tbl) && goodWord (.arrayClass (newarray.typeOf .int))) = true := by decide +kernel
  simp only [Bool.and_eq_true, decide_eq_true_eq] at h1
  exact List.mem_filter.mpr h1
