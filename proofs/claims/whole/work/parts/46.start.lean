theorem cl6 : (nI 6).toNatClampNeg = 6 := by decide
theorem ng6 : (¬ nI 6 < 0) = True := eq_true (by decide)
theorem cl48 : (nI 48).toNatClampNeg = 48 := by decide
theorem ng48 : (¬ nI 48 < 0) = True := eq_true (by decide)
theorem cl60 : (nI 60).toNatClampNeg = 60 := by decide
theorem ng60 : (¬ nI 60 < 0) = True := eq_true (by decide)
theorem cl384 : (nI 384).toNatClampNeg = 384 := by decide
theorem ng384 : (¬ nI 384 < 0) = True := eq_true (by decide)
/-! the start: what is there, a list of cells -/
def Wl (x : Cx) (qs : List (Nat × va_E)) (w : Wd) : Prop := (qs.map Prod.fst).Nodup ∧ (∀ q ∈ qs, w q.1 = some q.2) ∧ (∀ b, b ∉ qs.map Prod.fst → w b = none) ∧ ∀ q ∈ qs, q.1 ≠ xE x ∧ q.1 ≠ xB x
section
variable {x : Cx} {w w' : Wd} {qs rest : List (Nat × va_E)} {a o : Nat} {e e0 e1 : va_E} {K : Po}
theorem Wl_no (h : Wl x qs w) (ho : w o = none) : o ∉ qs.map Prod.fst := by
  intro hm
  obtain ⟨q, hq, rfl⟩ := List.mem_map.mp hm
  rw [h.2.1 q hq] at ho
  cases ho
theorem Wl_new (h : Wl x qs w) (ho : frs x w o) : Wl x ((o, e) :: qs) (va_up w o (some e)) := by
  have hn := Wl_no h ho.1
  refine ⟨List.nodup_cons.mpr ⟨hn, h.1⟩, fun q hq => ?_, fun b hb => ?_, fun q hq => ?_⟩
  · rcases List.mem_cons.mp hq with rfl | hq
    · exact va_up_self _ _ _
    · have : q.1 ≠ o := fun z => hn (z ▸ List.mem_map_of_mem hq)
      rw [va_up_ne _ _ this]
      exact h.2.1 q hq
  · simp only [List.map_cons, List.mem_cons, not_or] at hb
    rw [va_up_ne _ _ hb.1]
    exact h.2.2.1 b hb.2
  · rcases List.mem_cons.mp hq with rfl | hq
    · exact ho.2
    · exact h.2.2.2 q hq
theorem Wl_ext (h : Wl x ((a, e0) :: rest) w) (h1 : w' a = some e1) (h2 : ∀ b, b ≠ a → w' b = w b) : Wl x ((a, e1) :: rest) w' := by
  obtain ⟨n1, n2⟩ := List.nodup_cons.mp h.1
  refine ⟨h.1, fun q hq => ?_, fun b hb => ?_, fun q hq => ?_⟩
  · rcases List.mem_cons.mp hq with rfl | hq
    · exact h1
    · have : q.1 ≠ a := fun z => n1 (by show a ∈ _; rw [← z]; exact List.mem_map_of_mem hq)
      rw [h2 _ this]
      exact h.2.1 q (List.mem_cons_of_mem _ hq)
  · have hb' := hb
    simp only [List.map_cons, List.mem_cons, not_or] at hb
    rw [h2 _ hb.1]
    exact h.2.2.1 b hb'
  · rcases List.mem_cons.mp hq with rfl | hq
    · exact h.2.2.2 (a, e0) List.mem_cons_self
    · exact h.2.2.2 q (List.mem_cons_of_mem _ hq)
theorem Wl_up (h : Wl x ((a, e0) :: rest) w) : Wl x ((a, e1) :: rest) (va_up w a (some e1)) := Wl_ext h (va_up_self _ _ _) (fun b hb => va_up_ne _ _ hb)
theorem Wl_mid {l1 l2 : List (Nat × va_E)} {q : Nat × va_E} (h : Wl x (l1 ++ q :: l2) w) : Wl x (q :: (l1 ++ l2)) w := by
  have hp : (q :: (l1 ++ l2)).Perm (l1 ++ q :: l2) := List.perm_middle.symm
  refine ⟨((hp.map Prod.fst).nodup_iff).mpr h.1, fun r hr => h.2.1 r (hp.mem_iff.mp hr), fun b hb => h.2.2.1 b (fun z => hb ((hp.map Prod.fst).mem_iff.mpr z)), fun r hr => h.2.2.2 r (hp.mem_iff.mp hr)⟩
theorem Wl_hd (h : Wl x ((a, e0) :: rest) w) : w a = some e0 := h.2.1 _ List.mem_cons_self
/-- more cells, and the head changed -/
theorem Wl_add (h : Wl x ((a, e0) :: rest) w) {new : List (Nat × va_E)} (hn : ∀ q ∈ new, frs x w q.1 ∧ w' q.1 = some q.2) (hd : (new.map Prod.fst).Nodup) (h1 : w' a = some e1) (h2 : ∀ b, b ≠ a → b ∉ new.map Prod.fst → w' b = w b) : Wl x ((a, e1) :: (new ++ rest)) w' := by
  obtain ⟨n1, n2⟩ := List.nodup_cons.mp h.1
  have dis : ∀ q ∈ new, q.1 ∉ ((a, e0) :: rest).map Prod.fst := fun q hq => Wl_no h (hn q hq).1.1
  have an : a ∉ new.map Prod.fst := by
    intro hm
    obtain ⟨q, hq, e⟩ := List.mem_map.mp hm
    exact dis q hq (by rw [e]; simp)
  have hw : w a = some e0 := Wl_hd h
  refine ⟨?_, fun q hq => ?_, fun b hb => ?_, fun q hq => ?_⟩
  · rw [List.map_cons, List.map_append, List.nodup_cons, List.nodup_append]
    refine ⟨fun hm => ?_, hd, n2, fun b hb c hc z => ?_⟩
    · rcases List.mem_append.mp hm with hm | hm
      · exact an hm
      · exact n1 hm
    · obtain ⟨q, hq, rfl⟩ := List.mem_map.mp hb
      exact dis q hq (List.mem_cons_of_mem _ (z ▸ hc))
  · rcases List.mem_cons.mp hq with rfl | hq
    · exact h1
    · rcases List.mem_append.mp hq with hq | hq
      · exact (hn q hq).2
      · have b1 : q.1 ≠ a := fun z => n1 (by show a ∈ _; rw [← z]; exact List.mem_map_of_mem hq)
        rw [h2 _ b1 (fun hm => by
          obtain ⟨r, hr, e⟩ := List.mem_map.mp hm
          exact dis r hr (by rw [e]; exact List.mem_cons_of_mem _ (List.mem_map_of_mem hq)))]
        exact h.2.1 q (List.mem_cons_of_mem _ hq)
  · simp only [List.map_cons, List.map_append, List.mem_cons, List.mem_append, not_or] at hb
    rw [h2 b hb.1 hb.2.1]
    exact h.2.2.1 b (by simp only [List.map_cons, List.mem_cons, not_or]; exact ⟨hb.1, hb.2.2⟩)
  · rcases List.mem_cons.mp hq with rfl | hq
    · exact h.2.2.2 (a, e0) List.mem_cons_self
    · rcases List.mem_append.mp hq with hq | hq
      · exact (hn q hq).1.2
      · exact h.2.2.2 q (List.mem_cons_of_mem _ hq)
theorem w59 (h : Wl x ((o, eO 5 [.null]) :: rest) w) (hK : ∀ (o1 : Nat) (w' : Wd), Wl x ((o, eO 5 [.ref o1]) :: ([(o1, eO 0 [.int (nI 0), .ref (xE x), .int 0])] ++ rest)) w' → K (.inl none) w') : CL x 59 [.ref o] w K :=
  s59 (Wl_hd h) (fun o1 w' h1 g0 g1 gb => hK o1 w' (Wl_add h (by simp [h1, g1]) (by simp) g0 (fun b b0 bn => gb b b0 (by simpa using bn))))
theorem w52 (h : Wl x ((o, eO 2 [.null]) :: rest) w) (hK : ∀ (o1 : Nat) (w' : Wd), Wl x ((o, eO 2 [.ref o1]) :: ([(o1, eO 0 [.int (nI 0), .ref (xE x), .int 0])] ++ rest)) w' → K (.inl none) w') : CL x 52 [.ref o] w K :=
  s52 (Wl_hd h) (fun o1 w' h1 g0 g1 gb => hK o1 w' (Wl_add h (by simp [h1, g1]) (by simp) g0 (fun b b0 bn => gb b b0 (by simpa using bn))))
theorem w20 (h : Wl x ((o, eO 3 [.null, .null, .null]) :: rest) w) (hK : ∀ (o1 o2 o3 : Nat) (w' : Wd), Wl x ((o, eO 3 [.ref o1, .ref o2, .ref o3]) :: ([(o1, eI x 10 (fun _ => 0)), (o2, eI x 10 (fun _ => 0)), (o3, eI x 64 (fun _ => 0))] ++ rest)) w' → K (.inl none) w') : CL x 20 [.ref o] w K :=
  s20 (Wl_hd h) (fun o1 o2 o3 w' h1 h2 h3 d1 d2 d3 g0 g1 g2 g3 gb => hK o1 o2 o3 w' (Wl_add h (by simp [h1, h2, h3, g1, g2, g3]) (by simp [d1, d2, d3]) g0 (fun b b0 bn => by
    simp at bn
    exact gb b b0 bn.1 bn.2.1 bn.2.2)))
theorem w39 (h : Wl x ((o, eO 4 [.null, .null, .int 0, .int 0]) :: rest) w) (hK : ∀ (o1 o2 : Nat) (w' : Wd), Wl x ((o, eO 4 [.ref o1, .ref o2, .int (nI 0), .int (nI 0)]) :: ([(o1, eI x 8 (fun _ => 0)), (o2, eI x 4 (fun _ => 0))] ++ rest)) w' → K (.inl none) w') : CL x 39 [.ref o] w K :=
  s39 (Wl_hd h) (fun o1 o2 w' h1 h2 d1 g0 g1 g2 gb => hK o1 o2 w' (Wl_add h (by simp [h1, h2, g1, g2]) (by simp [d1]) g0 (fun b b0 bn => by
    simp at bn
    exact gb b b0 bn.1 bn.2)))
theorem w3 (h : Wl x ((o, eO 0 [.int 0, .null, .int 0]) :: rest) w) (hK : ∀ w' : Wd, Wl x ((o, eO 0 [.int (nI 0), .ref (xE x), .int 0]) :: rest) w' → K (.inl none) w') : CL x 3 [.ref o] w K := by
  rw [s3 (Wl_hd h)]
  exact hK _ (Wl_up h)

theorem s72 {a : Nat} (h : Wl x ((a, eO 7 [.null, .null, .null, .null, .null]) :: rest) w) (hK : ∀ (r1 r2 n1 n2 sl pc p1 p2 p3 rd d1 d2 : Nat) (w' : Wd), Wl x ((a, eO 7 [.ref r1, .ref n1, .ref sl, .ref pc, .ref rd]) :: ([(rd, eO 4 [.ref d1, .ref d2, .int (nI 0), .int (nI 0)]), (d1, eI x 8 (fun _ => 0)), (d2, eI x 4 (fun _ => 0)), (pc, eO 3 [.ref p1, .ref p2, .ref p3]), (p1, eI x 10 (fun _ => 0)), (p2, eI x 10 (fun _ => 0)), (p3, eI x 64 (fun _ => 0)), (sl, eO 0 [.int (nI 0), .ref (xE x), .int 0]), (n1, eO 2 [.ref n2]), (n2, eO 0 [.int (nI 0), .ref (xE x), .int 0]), (r1, eO 5 [.ref r2]), (r2, eO 0 [.int (nI 0), .ref (xE x), .int 0])] ++ rest)) w' → K (.inl none) w') : CL x 72 [.ref a] w K := by
  rw [CL_72]
  simp only [t_72_0, t_72_1, t_72_4, t_72_5, decide_true, decide_false, Bool.not_true, Bool.not_false, Nat.reduceLeDiff, Nat.reduceSub, z0_t, z1_f, z1_t, true_or, or_true,  if_true, if_false, Bool.false_eq_true, aft_v, aft_n, aftN_v, aftN_n, qwV_s, qwV_0, bI_if, bI_ok, bI_ok0, bI_ok1, true_and]
  intro r1 f1
  have h1 := Wl_new (e := eO 5 [.null]) h f1
  simp only [t_72_8, t_72_9, decide_true, decide_false, Bool.not_true, Bool.not_false, Nat.reduceLeDiff, Nat.reduceSub, z0_t, z1_f, z1_t, true_or, or_true,  if_true, if_false, Bool.false_eq_true, aft_v, aft_n, aftN_v, aftN_n, qwV_s, qwV_0, bI_if, bI_ok, bI_ok0, bI_ok1, true_and, dfl_5]
  refine w59 h1 (fun r2 w1 h1 => ?_)
  have h1 := Wl_mid (l1 := [(r1, _), (r2, _)]) h1
  simp only [t_72_12, decide_true, decide_false, Bool.not_true, Bool.not_false, Nat.reduceLeDiff, Nat.reduceSub, z0_t, z1_f, z1_t, true_or, or_true,  if_true, if_false, Bool.false_eq_true, aft_v, aft_n, aftN_v, aftN_n, qwV_s, qwV_0, bI_if, bI_ok, bI_ok0, bI_ok1, true_and, Wl_hd h1, List.length_cons, List.length_nil, List.set_cons_zero, List.set_cons_succ, Nat.reduceAdd, Nat.reduceLT, qwO_s]
  have h2 := Wl_up (e1 := eO 7 [.ref r1, .null, .null, .null, .null]) h1
  simp only [t_72_15, t_72_16, decide_true, decide_false, Bool.not_true, Bool.not_false, Nat.reduceLeDiff, Nat.reduceSub, z0_t, z1_f, z1_t, true_or, or_true,  if_true, if_false, Bool.false_eq_true, aft_v, aft_n, aftN_v, aftN_n, qwV_s, qwV_0, bI_if, bI_ok, bI_ok0, bI_ok1, true_and]
  intro n1 f2
  have h3 := Wl_new (e := eO 2 [.null]) h2 f2
  simp only [t_72_19, t_72_20, decide_true, decide_false, Bool.not_true, Bool.not_false, Nat.reduceLeDiff, Nat.reduceSub, z0_t, z1_f, z1_t, true_or, or_true,  if_true, if_false, Bool.false_eq_true, aft_v, aft_n, aftN_v, aftN_n, qwV_s, qwV_0, bI_if, bI_ok, bI_ok0, bI_ok1, true_and, dfl_2]
  refine w52 h3 (fun n2 w2 h3 => ?_)
  have h3 := Wl_mid (l1 := [(n1, _), (n2, _)]) h3
  simp only [t_72_23, decide_true, decide_false, Bool.not_true, Bool.not_false, Nat.reduceLeDiff, Nat.reduceSub, z0_t, z1_f, z1_t, true_or, or_true,  if_true, if_false, Bool.false_eq_true, aft_v, aft_n, aftN_v, aftN_n, qwV_s, qwV_0, bI_if, bI_ok, bI_ok0, bI_ok1, true_and, Wl_hd h3, List.length_cons, List.length_nil, List.set_cons_zero, List.set_cons_succ, Nat.reduceAdd, Nat.reduceLT, qwO_s]
  have h4 := Wl_up (e1 := eO 7 [.ref r1, .ref n1, .null, .null, .null]) h3
  simp only [t_72_26, t_72_27, decide_true, decide_false, Bool.not_true, Bool.not_false, Nat.reduceLeDiff, Nat.reduceSub, z0_t, z1_f, z1_t, true_or, or_true,  if_true, if_false, Bool.false_eq_true, aft_v, aft_n, aftN_v, aftN_n, qwV_s, qwV_0, bI_if, bI_ok, bI_ok0, bI_ok1, true_and]
  intro sl f3
  have h5 := Wl_new (e := eO 0 [.int 0, .null, .int 0]) h4 f3
  simp only [t_72_30, t_72_31, decide_true, decide_false, Bool.not_true, Bool.not_false, Nat.reduceLeDiff, Nat.reduceSub, z0_t, z1_f, z1_t, true_or, or_true,  if_true, if_false, Bool.false_eq_true, aft_v, aft_n, aftN_v, aftN_n, qwV_s, qwV_0, bI_if, bI_ok, bI_ok0, bI_ok1, true_and, dfl_0]
  refine w3 h5 (fun w3 h5 => ?_)
  have h5 := Wl_mid (l1 := [(sl, _)]) h5
  simp only [t_72_34, decide_true, decide_false, Bool.not_true, Bool.not_false, Nat.reduceLeDiff, Nat.reduceSub, z0_t, z1_f, z1_t, true_or, or_true,  if_true, if_false, Bool.false_eq_true, aft_v, aft_n, aftN_v, aftN_n, qwV_s, qwV_0, bI_if, bI_ok, bI_ok0, bI_ok1, true_and, Wl_hd h5, List.length_cons, List.length_nil, List.set_cons_zero, List.set_cons_succ, Nat.reduceAdd, Nat.reduceLT, qwO_s]
  have h6 := Wl_up (e1 := eO 7 [.ref r1, .ref n1, .ref sl, .null, .null]) h5
  simp only [t_72_37, t_72_38, decide_true, decide_false, Bool.not_true, Bool.not_false, Nat.reduceLeDiff, Nat.reduceSub, z0_t, z1_f, z1_t, true_or, or_true,  if_true, if_false, Bool.false_eq_true, aft_v, aft_n, aftN_v, aftN_n, qwV_s, qwV_0, bI_if, bI_ok, bI_ok0, bI_ok1, true_and]
  intro pc f4
  have h7 := Wl_new (e := eO 3 [.null, .null, .null]) h6 f4
  simp only [t_72_41, t_72_42, decide_true, decide_false, Bool.not_true, Bool.not_false, Nat.reduceLeDiff, Nat.reduceSub, z0_t, z1_f, z1_t, true_or, or_true,  if_true, if_false, Bool.false_eq_true, aft_v, aft_n, aftN_v, aftN_n, qwV_s, qwV_0, bI_if, bI_ok, bI_ok0, bI_ok1, true_and, dfl_3]
  refine w20 h7 (fun p1 p2 p3 w4 h7 => ?_)
  have h7 := Wl_mid (l1 := [(pc, _), (p1, _), (p2, _), (p3, _)]) h7
  simp only [t_72_45, decide_true, decide_false, Bool.not_true, Bool.not_false, Nat.reduceLeDiff, Nat.reduceSub, z0_t, z1_f, z1_t, true_or, or_true,  if_true, if_false, Bool.false_eq_true, aft_v, aft_n, aftN_v, aftN_n, qwV_s, qwV_0, bI_if, bI_ok, bI_ok0, bI_ok1, true_and, Wl_hd h7, List.length_cons, List.length_nil, List.set_cons_zero, List.set_cons_succ, Nat.reduceAdd, Nat.reduceLT, qwO_s]
  have h8 := Wl_up (e1 := eO 7 [.ref r1, .ref n1, .ref sl, .ref pc, .null]) h7
  simp only [t_72_48, t_72_49, decide_true, decide_false, Bool.not_true, Bool.not_false, Nat.reduceLeDiff, Nat.reduceSub, z0_t, z1_f, z1_t, true_or, or_true,  if_true, if_false, Bool.false_eq_true, aft_v, aft_n, aftN_v, aftN_n, qwV_s, qwV_0, bI_if, bI_ok, bI_ok0, bI_ok1, true_and]
  intro rd f5
  have h9 := Wl_new (e := eO 4 [.null, .null, .int 0, .int 0]) h8 f5
  simp only [t_72_52, t_72_53, decide_true, decide_false, Bool.not_true, Bool.not_false, Nat.reduceLeDiff, Nat.reduceSub, z0_t, z1_f, z1_t, true_or, or_true,  if_true, if_false, Bool.false_eq_true, aft_v, aft_n, aftN_v, aftN_n, qwV_s, qwV_0, bI_if, bI_ok, bI_ok0, bI_ok1, true_and, dfl_4]
  refine w39 h9 (fun d1 d2 w5 h9 => ?_)
  have h9 := Wl_mid (l1 := [(rd, _), (d1, _), (d2, _)]) h9
  simp only [t_72_56, t_72_59, decide_true, decide_false, Bool.not_true, Bool.not_false, Nat.reduceLeDiff, Nat.reduceSub, z0_t, z1_f, z1_t, true_or, or_true,  if_true, if_false, Bool.false_eq_true, aft_v, aft_n, aftN_v, aftN_n, qwV_s, qwV_0, bI_if, bI_ok, bI_ok0, bI_ok1, true_and, Wl_hd h9, List.length_cons, List.length_nil, List.set_cons_zero, List.set_cons_succ, Nat.reduceAdd, Nat.reduceLT, qwO_s]
  exact hK r1 r2 n1 n2 sl pc p1 p2 p3 rd d1 d2 _ (Wl_up h9)

theorem s103 {a : Nat} (h : Wl x ((a, eO 8 [.int 0, .null, .null, .int 0, .null, .null, .null, .null, .int 0, .null, .null, .null, .null, .int 0, .null, .null, .null, .null, .null, .null, .null, .null, .int 0, .null, .null, .null, .null, .null]) :: rest) w) (hK : ∀ (a1 a2 a4 a5 a6 a7 a9 a10 a11 a12 a14 a15 a16 a17 a18 a19 a20 a21 a23 a24 a25 a26 a27 : Nat) (w' : Wd), Wl x ((a, eO 8 [.int 0, .ref a1, .ref a2, .int 0, .ref a4, .ref a5, .ref a6, .ref a7, .int 0, .ref a9, .ref a10, .ref a11, .ref a12, .int 0, .ref a14, .ref a15, .ref a16, .ref a17, .ref a18, .ref a19, .ref a20, .ref a21, .int 0, .ref a23, .ref a24, .ref a25, .ref a26, .ref a27]) :: ([(a27, eI x 10 (fun _ => 0)), (a26, eI x 10 (fun _ => 0)), (a25, eI x 384 (fun _ => 0)), (a24, eI x 48 (fun _ => 0)), (a23, eI x 60 (fun _ => 0)), (a21, eZ x 6 (fun _ => 0)), (a20, eI x 6 (fun _ => 0)), (a19, eI x 6 (fun _ => 0)), (a18, eI x 6 (fun _ => 0)), (a17, eI x 6 (fun _ => 0)), (a16, eI x 6 (fun _ => 0)), (a15, eI x 6 (fun _ => 0)), (a14, eI x 6 (fun _ => 0)), (a12, eI x 10 (fun _ => 0)), (a11, eI x 10 (fun _ => 0)), (a10, eI x 10 (fun _ => 0)), (a9, eI x 10 (fun _ => 0)), (a7, eI x 8 (fun _ => 0)), (a6, eI x 8 (fun _ => 0)), (a5, eI x 64 (fun _ => 0)), (a4, eI x 64 (fun _ => 0)), (a2, eI x 8 (fun _ => 0)), (a1, eI x 8 (fun _ => 0))] ++ rest)) w' → K (.inl none) w') : CL x 103 [.ref a] w K := by
  rw [CL_103]
  simp only [t_103_0, t_103_1, t_103_4, t_103_5, t_103_7, decide_true, decide_false, Bool.not_true, Bool.not_false, Nat.reduceLeDiff, Nat.reduceSub, z0_t, z1_f, z1_t, true_or, or_true,  if_true, if_false, Bool.false_eq_true, aft_v, aft_n, aftN_v, aftN_n, qwV_s, qwV_0, bI_if, bI_ok, bI_ok0, bI_ok1, true_and, ng8, cl8]
  intro a1 f1
  have n1 : a ≠ a1 := fr_ne f1 (Wl_hd h)
  have h1 := Wl_up (e1 := eO 8 [.int 0, .ref a1, .null, .int 0, .null, .null, .null, .null, .int 0, .null, .null, .null, .null, .int 0, .null, .null, .null, .null, .null, .null, .null, .null, .int 0, .null, .null, .null, .null, .null]) (Wl_mid (l1 := [(a1, _)]) (Wl_new (e := eI x 8 (fun _ => 0)) h f1))
  simp only [t_103_9, t_103_12, t_103_13, t_103_15, decide_true, decide_false, Bool.not_true, Bool.not_false, Nat.reduceLeDiff, Nat.reduceSub, z0_t, z1_f, z1_t, true_or, or_true,  if_true, if_false, Bool.false_eq_true, aft_v, aft_n, aftN_v, aftN_n, qwV_s, qwV_0, bI_if, bI_ok, bI_ok0, bI_ok1, true_and, va_up_ne _ _ n1, Wl_hd h, List.length_cons, List.length_nil, List.set_cons_zero, List.set_cons_succ, Nat.reduceAdd, Nat.reduceLT, qwO_s, ng8, cl8]
  generalize va_up (va_up _ a1 _) a _ = w1 at h1 ⊢
  intro a2 f2
  have n2 : a ≠ a2 := fr_ne f2 (Wl_hd h1)
  have h2 := Wl_up (e1 := eO 8 [.int 0, .ref a1, .ref a2, .int 0, .null, .null, .null, .null, .int 0, .null, .null, .null, .null, .int 0, .null, .null, .null, .null, .null, .null, .null, .null, .int 0, .null, .null, .null, .null, .null]) (Wl_mid (l1 := [(a2, _)]) (Wl_new (e := eI x 8 (fun _ => 0)) h1 f2))
  simp only [t_103_17, t_103_20, t_103_21, t_103_23, decide_true, decide_false, Bool.not_true, Bool.not_false, Nat.reduceLeDiff, Nat.reduceSub, z0_t, z1_f, z1_t, true_or, or_true,  if_true, if_false, Bool.false_eq_true, aft_v, aft_n, aftN_v, aftN_n, qwV_s, qwV_0, bI_if, bI_ok, bI_ok0, bI_ok1, true_and, va_up_ne _ _ n2, Wl_hd h1, List.length_cons, List.length_nil, List.set_cons_zero, List.set_cons_succ, Nat.reduceAdd, Nat.reduceLT, qwO_s, ng64, cl64]
  generalize va_up (va_up _ a2 _) a _ = w2 at h2 ⊢
  intro a4 f4
  have n4 : a ≠ a4 := fr_ne f4 (Wl_hd h2)
  have h4 := Wl_up (e1 := eO 8 [.int 0, .ref a1, .ref a2, .int 0, .ref a4, .null, .null, .null, .int 0, .null, .null, .null, .null, .int 0, .null, .null, .null, .null, .null, .null, .null, .null, .int 0, .null, .null, .null, .null, .null]) (Wl_mid (l1 := [(a4, _)]) (Wl_new (e := eI x 64 (fun _ => 0)) h2 f4))
  simp only [t_103_25, t_103_28, t_103_29, t_103_31, decide_true, decide_false, Bool.not_true, Bool.not_false, Nat.reduceLeDiff, Nat.reduceSub, z0_t, z1_f, z1_t, true_or, or_true,  if_true, if_false, Bool.false_eq_true, aft_v, aft_n, aftN_v, aftN_n, qwV_s, qwV_0, bI_if, bI_ok, bI_ok0, bI_ok1, true_and, va_up_ne _ _ n4, Wl_hd h2, List.length_cons, List.length_nil, List.set_cons_zero, List.set_cons_succ, Nat.reduceAdd, Nat.reduceLT, qwO_s, ng64, cl64]
  generalize va_up (va_up _ a4 _) a _ = w4 at h4 ⊢
  intro a5 f5
  have n5 : a ≠ a5 := fr_ne f5 (Wl_hd h4)
  have h5 := Wl_up (e1 := eO 8 [.int 0, .ref a1, .ref a2, .int 0, .ref a4, .ref a5, .null, .null, .int 0, .null, .null, .null, .null, .int 0, .null, .null, .null, .null, .null, .null, .null, .null, .int 0, .null, .null, .null, .null, .null]) (Wl_mid (l1 := [(a5, _)]) (Wl_new (e := eI x 64 (fun _ => 0)) h4 f5))
  simp only [t_103_33, t_103_36, t_103_37, t_103_39, decide_true, decide_false, Bool.not_true, Bool.not_false, Nat.reduceLeDiff, Nat.reduceSub, z0_t, z1_f, z1_t, true_or, or_true,  if_true, if_false, Bool.false_eq_true, aft_v, aft_n, aftN_v, aftN_n, qwV_s, qwV_0, bI_if, bI_ok, bI_ok0, bI_ok1, true_and, va_up_ne _ _ n5, Wl_hd h4, List.length_cons, List.length_nil, List.set_cons_zero, List.set_cons_succ, Nat.reduceAdd, Nat.reduceLT, qwO_s, ng8, cl8]
  generalize va_up (va_up _ a5 _) a _ = w5 at h5 ⊢
  intro a6 f6
  have n6 : a ≠ a6 := fr_ne f6 (Wl_hd h5)
  have h6 := Wl_up (e1 := eO 8 [.int 0, .ref a1, .ref a2, .int 0, .ref a4, .ref a5, .ref a6, .null, .int 0, .null, .null, .null, .null, .int 0, .null, .null, .null, .null, .null, .null, .null, .null, .int 0, .null, .null, .null, .null, .null]) (Wl_mid (l1 := [(a6, _)]) (Wl_new (e := eI x 8 (fun _ => 0)) h5 f6))
  simp only [t_103_41, t_103_44, t_103_45, t_103_47, decide_true, decide_false, Bool.not_true, Bool.not_false, Nat.reduceLeDiff, Nat.reduceSub, z0_t, z1_f, z1_t, true_or, or_true,  if_true, if_false, Bool.false_eq_true, aft_v, aft_n, aftN_v, aftN_n, qwV_s, qwV_0, bI_if, bI_ok, bI_ok0, bI_ok1, true_and, va_up_ne _ _ n6, Wl_hd h5, List.length_cons, List.length_nil, List.set_cons_zero, List.set_cons_succ, Nat.reduceAdd, Nat.reduceLT, qwO_s, ng8, cl8]
  generalize va_up (va_up _ a6 _) a _ = w6 at h6 ⊢
  intro a7 f7
  have n7 : a ≠ a7 := fr_ne f7 (Wl_hd h6)
  have h7 := Wl_up (e1 := eO 8 [.int 0, .ref a1, .ref a2, .int 0, .ref a4, .ref a5, .ref a6, .ref a7, .int 0, .null, .null, .null, .null, .int 0, .null, .null, .null, .null, .null, .null, .null, .null, .int 0, .null, .null, .null, .null, .null]) (Wl_mid (l1 := [(a7, _)]) (Wl_new (e := eI x 8 (fun _ => 0)) h6 f7))
  simp only [t_103_49, t_103_52, t_103_53, t_103_55, decide_true, decide_false, Bool.not_true, Bool.not_false, Nat.reduceLeDiff, Nat.reduceSub, z0_t, z1_f, z1_t, true_or, or_true,  if_true, if_false, Bool.false_eq_true, aft_v, aft_n, aftN_v, aftN_n, qwV_s, qwV_0, bI_if, bI_ok, bI_ok0, bI_ok1, true_and, va_up_ne _ _ n7, Wl_hd h6, List.length_cons, List.length_nil, List.set_cons_zero, List.set_cons_succ, Nat.reduceAdd, Nat.reduceLT, qwO_s, ng10, cl10]
  generalize va_up (va_up _ a7 _) a _ = w7 at h7 ⊢
  intro a9 f9
  have n9 : a ≠ a9 := fr_ne f9 (Wl_hd h7)
  have h9 := Wl_up (e1 := eO 8 [.int 0, .ref a1, .ref a2, .int 0, .ref a4, .ref a5, .ref a6, .ref a7, .int 0, .ref a9, .null, .null, .null, .int 0, .null, .null, .null, .null, .null, .null, .null, .null, .int 0, .null, .null, .null, .null, .null]) (Wl_mid (l1 := [(a9, _)]) (Wl_new (e := eI x 10 (fun _ => 0)) h7 f9))
  simp only [t_103_57, t_103_60, t_103_61, t_103_63, decide_true, decide_false, Bool.not_true, Bool.not_false, Nat.reduceLeDiff, Nat.reduceSub, z0_t, z1_f, z1_t, true_or, or_true,  if_true, if_false, Bool.false_eq_true, aft_v, aft_n, aftN_v, aftN_n, qwV_s, qwV_0, bI_if, bI_ok, bI_ok0, bI_ok1, true_and, va_up_ne _ _ n9, Wl_hd h7, List.length_cons, List.length_nil, List.set_cons_zero, List.set_cons_succ, Nat.reduceAdd, Nat.reduceLT, qwO_s, ng10, cl10]
  generalize va_up (va_up _ a9 _) a _ = w9 at h9 ⊢
  intro a10 f10
  have n10 : a ≠ a10 := fr_ne f10 (Wl_hd h9)
  have h10 := Wl_up (e1 := eO 8 [.int 0, .ref a1, .ref a2, .int 0, .ref a4, .ref a5, .ref a6, .ref a7, .int 0, .ref a9, .ref a10, .null, .null, .int 0, .null, .null, .null, .null, .null, .null, .null, .null, .int 0, .null, .null, .null, .null, .null]) (Wl_mid (l1 := [(a10, _)]) (Wl_new (e := eI x 10 (fun _ => 0)) h9 f10))
  simp only [t_103_65, t_103_68, t_103_69, t_103_71, decide_true, decide_false, Bool.not_true, Bool.not_false, Nat.reduceLeDiff, Nat.reduceSub, z0_t, z1_f, z1_t, true_or, or_true,  if_true, if_false, Bool.false_eq_true, aft_v, aft_n, aftN_v, aftN_n, qwV_s, qwV_0, bI_if, bI_ok, bI_ok0, bI_ok1, true_and, va_up_ne _ _ n10, Wl_hd h9, List.length_cons, List.length_nil, List.set_cons_zero, List.set_cons_succ, Nat.reduceAdd, Nat.reduceLT, qwO_s, ng10, cl10]
  generalize va_up (va_up _ a10 _) a _ = w10 at h10 ⊢
  intro a11 f11
  have n11 : a ≠ a11 := fr_ne f11 (Wl_hd h10)
  have h11 := Wl_up (e1 := eO 8 [.int 0, .ref a1, .ref a2, .int 0, .ref a4, .ref a5, .ref a6, .ref a7, .int 0, .ref a9, .ref a10, .ref a11, .null, .int 0, .null, .null, .null, .null, .null, .null, .null, .null, .int 0, .null, .null, .null, .null, .null]) (Wl_mid (l1 := [(a11, _)]) (Wl_new (e := eI x 10 (fun _ => 0)) h10 f11))
  simp only [t_103_73, t_103_76, t_103_77, t_103_79, decide_true, decide_false, Bool.not_true, Bool.not_false, Nat.reduceLeDiff, Nat.reduceSub, z0_t, z1_f, z1_t, true_or, or_true,  if_true, if_false, Bool.false_eq_true, aft_v, aft_n, aftN_v, aftN_n, qwV_s, qwV_0, bI_if, bI_ok, bI_ok0, bI_ok1, true_and, va_up_ne _ _ n11, Wl_hd h10, List.length_cons, List.length_nil, List.set_cons_zero, List.set_cons_succ, Nat.reduceAdd, Nat.reduceLT, qwO_s, ng10, cl10]
  generalize va_up (va_up _ a11 _) a _ = w11 at h11 ⊢
  intro a12 f12
  have n12 : a ≠ a12 := fr_ne f12 (Wl_hd h11)
  have h12 := Wl_up (e1 := eO 8 [.int 0, .ref a1, .ref a2, .int 0, .ref a4, .ref a5, .ref a6, .ref a7, .int 0, .ref a9, .ref a10, .ref a11, .ref a12, .int 0, .null, .null, .null, .null, .null, .null, .null, .null, .int 0, .null, .null, .null, .null, .null]) (Wl_mid (l1 := [(a12, _)]) (Wl_new (e := eI x 10 (fun _ => 0)) h11 f12))
  simp only [t_103_81, t_103_84, t_103_85, t_103_87, decide_true, decide_false, Bool.not_true, Bool.not_false, Nat.reduceLeDiff, Nat.reduceSub, z0_t, z1_f, z1_t, true_or, or_true,  if_true, if_false, Bool.false_eq_true, aft_v, aft_n, aftN_v, aftN_n, qwV_s, qwV_0, bI_if, bI_ok, bI_ok0, bI_ok1, true_and, va_up_ne _ _ n12, Wl_hd h11, List.length_cons, List.length_nil, List.set_cons_zero, List.set_cons_succ, Nat.reduceAdd, Nat.reduceLT, qwO_s, ng6, cl6]
  generalize va_up (va_up _ a12 _) a _ = w12 at h12 ⊢
  intro a14 f14
  have n14 : a ≠ a14 := fr_ne f14 (Wl_hd h12)
  have h14 := Wl_up (e1 := eO 8 [.int 0, .ref a1, .ref a2, .int 0, .ref a4, .ref a5, .ref a6, .ref a7, .int 0, .ref a9, .ref a10, .ref a11, .ref a12, .int 0, .ref a14, .null, .null, .null, .null, .null, .null, .null, .int 0, .null, .null, .null, .null, .null]) (Wl_mid (l1 := [(a14, _)]) (Wl_new (e := eI x 6 (fun _ => 0)) h12 f14))
  simp only [t_103_89, t_103_92, t_103_93, t_103_95, decide_true, decide_false, Bool.not_true, Bool.not_false, Nat.reduceLeDiff, Nat.reduceSub, z0_t, z1_f, z1_t, true_or, or_true,  if_true, if_false, Bool.false_eq_true, aft_v, aft_n, aftN_v, aftN_n, qwV_s, qwV_0, bI_if, bI_ok, bI_ok0, bI_ok1, true_and, va_up_ne _ _ n14, Wl_hd h12, List.length_cons, List.length_nil, List.set_cons_zero, List.set_cons_succ, Nat.reduceAdd, Nat.reduceLT, qwO_s, ng6, cl6]
  generalize va_up (va_up _ a14 _) a _ = w14 at h14 ⊢
  intro a15 f15
  have n15 : a ≠ a15 := fr_ne f15 (Wl_hd h14)
  have h15 := Wl_up (e1 := eO 8 [.int 0, .ref a1, .ref a2, .int 0, .ref a4, .ref a5, .ref a6, .ref a7, .int 0, .ref a9, .ref a10, .ref a11, .ref a12, .int 0, .ref a14, .ref a15, .null, .null, .null, .null, .null, .null, .int 0, .null, .null, .null, .null, .null]) (Wl_mid (l1 := [(a15, _)]) (Wl_new (e := eI x 6 (fun _ => 0)) h14 f15))
  simp only [t_103_97, t_103_100, t_103_101, t_103_103, decide_true, decide_false, Bool.not_true, Bool.not_false, Nat.reduceLeDiff, Nat.reduceSub, z0_t, z1_f, z1_t, true_or, or_true,  if_true, if_false, Bool.false_eq_true, aft_v, aft_n, aftN_v, aftN_n, qwV_s, qwV_0, bI_if, bI_ok, bI_ok0, bI_ok1, true_and, va_up_ne _ _ n15, Wl_hd h14, List.length_cons, List.length_nil, List.set_cons_zero, List.set_cons_succ, Nat.reduceAdd, Nat.reduceLT, qwO_s, ng6, cl6]
  generalize va_up (va_up _ a15 _) a _ = w15 at h15 ⊢
  intro a16 f16
  have n16 : a ≠ a16 := fr_ne f16 (Wl_hd h15)
  have h16 := Wl_up (e1 := eO 8 [.int 0, .ref a1, .ref a2, .int 0, .ref a4, .ref a5, .ref a6, .ref a7, .int 0, .ref a9, .ref a10, .ref a11, .ref a12, .int 0, .ref a14, .ref a15, .ref a16, .null, .null, .null, .null, .null, .int 0, .null, .null, .null, .null, .null]) (Wl_mid (l1 := [(a16, _)]) (Wl_new (e := eI x 6 (fun _ => 0)) h15 f16))
  simp only [t_103_105, t_103_108, t_103_109, t_103_111, decide_true, decide_false, Bool.not_true, Bool.not_false, Nat.reduceLeDiff, Nat.reduceSub, z0_t, z1_f, z1_t, true_or, or_true,  if_true, if_false, Bool.false_eq_true, aft_v, aft_n, aftN_v, aftN_n, qwV_s, qwV_0, bI_if, bI_ok, bI_ok0, bI_ok1, true_and, va_up_ne _ _ n16, Wl_hd h15, List.length_cons, List.length_nil, List.set_cons_zero, List.set_cons_succ, Nat.reduceAdd, Nat.reduceLT, qwO_s, ng6, cl6]
  generalize va_up (va_up _ a16 _) a _ = w16 at h16 ⊢
  intro a17 f17
  have n17 : a ≠ a17 := fr_ne f17 (Wl_hd h16)
  have h17 := Wl_up (e1 := eO 8 [.int 0, .ref a1, .ref a2, .int 0, .ref a4, .ref a5, .ref a6, .ref a7, .int 0, .ref a9, .ref a10, .ref a11, .ref a12, .int 0, .ref a14, .ref a15, .ref a16, .ref a17, .null, .null, .null, .null, .int 0, .null, .null, .null, .null, .null]) (Wl_mid (l1 := [(a17, _)]) (Wl_new (e := eI x 6 (fun _ => 0)) h16 f17))
  simp only [t_103_113, t_103_116, t_103_117, t_103_119, decide_true, decide_false, Bool.not_true, Bool.not_false, Nat.reduceLeDiff, Nat.reduceSub, z0_t, z1_f, z1_t, true_or, or_true,  if_true, if_false, Bool.false_eq_true, aft_v, aft_n, aftN_v, aftN_n, qwV_s, qwV_0, bI_if, bI_ok, bI_ok0, bI_ok1, true_and, va_up_ne _ _ n17, Wl_hd h16, List.length_cons, List.length_nil, List.set_cons_zero, List.set_cons_succ, Nat.reduceAdd, Nat.reduceLT, qwO_s, ng6, cl6]
  generalize va_up (va_up _ a17 _) a _ = w17 at h17 ⊢
  intro a18 f18
  have n18 : a ≠ a18 := fr_ne f18 (Wl_hd h17)
  have h18 := Wl_up (e1 := eO 8 [.int 0, .ref a1, .ref a2, .int 0, .ref a4, .ref a5, .ref a6, .ref a7, .int 0, .ref a9, .ref a10, .ref a11, .ref a12, .int 0, .ref a14, .ref a15, .ref a16, .ref a17, .ref a18, .null, .null, .null, .int 0, .null, .null, .null, .null, .null]) (Wl_mid (l1 := [(a18, _)]) (Wl_new (e := eI x 6 (fun _ => 0)) h17 f18))
  simp only [t_103_121, t_103_124, t_103_125, t_103_127, decide_true, decide_false, Bool.not_true, Bool.not_false, Nat.reduceLeDiff, Nat.reduceSub, z0_t, z1_f, z1_t, true_or, or_true,  if_true, if_false, Bool.false_eq_true, aft_v, aft_n, aftN_v, aftN_n, qwV_s, qwV_0, bI_if, bI_ok, bI_ok0, bI_ok1, true_and, va_up_ne _ _ n18, Wl_hd h17, List.length_cons, List.length_nil, List.set_cons_zero, List.set_cons_succ, Nat.reduceAdd, Nat.reduceLT, qwO_s, ng6, cl6]
  generalize va_up (va_up _ a18 _) a _ = w18 at h18 ⊢
  intro a19 f19
  have n19 : a ≠ a19 := fr_ne f19 (Wl_hd h18)
  have h19 := Wl_up (e1 := eO 8 [.int 0, .ref a1, .ref a2, .int 0, .ref a4, .ref a5, .ref a6, .ref a7, .int 0, .ref a9, .ref a10, .ref a11, .ref a12, .int 0, .ref a14, .ref a15, .ref a16, .ref a17, .ref a18, .ref a19, .null, .null, .int 0, .null, .null, .null, .null, .null]) (Wl_mid (l1 := [(a19, _)]) (Wl_new (e := eI x 6 (fun _ => 0)) h18 f19))
  simp only [t_103_129, t_103_132, t_103_133, t_103_135, decide_true, decide_false, Bool.not_true, Bool.not_false, Nat.reduceLeDiff, Nat.reduceSub, z0_t, z1_f, z1_t, true_or, or_true,  if_true, if_false, Bool.false_eq_true, aft_v, aft_n, aftN_v, aftN_n, qwV_s, qwV_0, bI_if, bI_ok, bI_ok0, bI_ok1, true_and, va_up_ne _ _ n19, Wl_hd h18, List.length_cons, List.length_nil, List.set_cons_zero, List.set_cons_succ, Nat.reduceAdd, Nat.reduceLT, qwO_s, ng6, cl6]
  generalize va_up (va_up _ a19 _) a _ = w19 at h19 ⊢
  intro a20 f20
  have n20 : a ≠ a20 := fr_ne f20 (Wl_hd h19)
  have h20 := Wl_up (e1 := eO 8 [.int 0, .ref a1, .ref a2, .int 0, .ref a4, .ref a5, .ref a6, .ref a7, .int 0, .ref a9, .ref a10, .ref a11, .ref a12, .int 0, .ref a14, .ref a15, .ref a16, .ref a17, .ref a18, .ref a19, .ref a20, .null, .int 0, .null, .null, .null, .null, .null]) (Wl_mid (l1 := [(a20, _)]) (Wl_new (e := eI x 6 (fun _ => 0)) h19 f20))
  simp only [t_103_137, t_103_140, t_103_141, t_103_143, decide_true, decide_false, Bool.not_true, Bool.not_false, Nat.reduceLeDiff, Nat.reduceSub, z0_t, z1_f, z1_t, true_or, or_true,  if_true, if_false, Bool.false_eq_true, aft_v, aft_n, aftN_v, aftN_n, qwV_s, qwV_0, bI_if, bI_ok, bI_ok0, bI_ok1, true_and, va_up_ne _ _ n20, Wl_hd h19, List.length_cons, List.length_nil, List.set_cons_zero, List.set_cons_succ, Nat.reduceAdd, Nat.reduceLT, qwO_s, ng6, cl6]
  generalize va_up (va_up _ a20 _) a _ = w20 at h20 ⊢
  intro a21 f21
  have n21 : a ≠ a21 := fr_ne f21 (Wl_hd h20)
  have h21 := Wl_up (e1 := eO 8 [.int 0, .ref a1, .ref a2, .int 0, .ref a4, .ref a5, .ref a6, .ref a7, .int 0, .ref a9, .ref a10, .ref a11, .ref a12, .int 0, .ref a14, .ref a15, .ref a16, .ref a17, .ref a18, .ref a19, .ref a20, .ref a21, .int 0, .null, .null, .null, .null, .null]) (Wl_mid (l1 := [(a21, _)]) (Wl_new (e := eZ x 6 (fun _ => 0)) h20 f21))
  simp only [t_103_145, t_103_148, t_103_149, t_103_151, decide_true, decide_false, Bool.not_true, Bool.not_false, Nat.reduceLeDiff, Nat.reduceSub, z0_t, z1_f, z1_t, true_or, or_true,  if_true, if_false, Bool.false_eq_true, aft_v, aft_n, aftN_v, aftN_n, qwV_s, qwV_0, bI_if, bI_ok, bI_ok0, bI_ok1, true_and, va_up_ne _ _ n21, Wl_hd h20, List.length_cons, List.length_nil, List.set_cons_zero, List.set_cons_succ, Nat.reduceAdd, Nat.reduceLT, qwO_s, ng60, cl60]
  generalize va_up (va_up _ a21 _) a _ = w21 at h21 ⊢
  intro a23 f23
  have n23 : a ≠ a23 := fr_ne f23 (Wl_hd h21)
  have h23 := Wl_up (e1 := eO 8 [.int 0, .ref a1, .ref a2, .int 0, .ref a4, .ref a5, .ref a6, .ref a7, .int 0, .ref a9, .ref a10, .ref a11, .ref a12, .int 0, .ref a14, .ref a15, .ref a16, .ref a17, .ref a18, .ref a19, .ref a20, .ref a21, .int 0, .ref a23, .null, .null, .null, .null]) (Wl_mid (l1 := [(a23, _)]) (Wl_new (e := eI x 60 (fun _ => 0)) h21 f23))
  simp only [t_103_153, t_103_156, t_103_157, t_103_159, decide_true, decide_false, Bool.not_true, Bool.not_false, Nat.reduceLeDiff, Nat.reduceSub, z0_t, z1_f, z1_t, true_or, or_true,  if_true, if_false, Bool.false_eq_true, aft_v, aft_n, aftN_v, aftN_n, qwV_s, qwV_0, bI_if, bI_ok, bI_ok0, bI_ok1, true_and, va_up_ne _ _ n23, Wl_hd h21, List.length_cons, List.length_nil, List.set_cons_zero, List.set_cons_succ, Nat.reduceAdd, Nat.reduceLT, qwO_s, ng48, cl48]
  generalize va_up (va_up _ a23 _) a _ = w23 at h23 ⊢
  intro a24 f24
  have n24 : a ≠ a24 := fr_ne f24 (Wl_hd h23)
  have h24 := Wl_up (e1 := eO 8 [.int 0, .ref a1, .ref a2, .int 0, .ref a4, .ref a5, .ref a6, .ref a7, .int 0, .ref a9, .ref a10, .ref a11, .ref a12, .int 0, .ref a14, .ref a15, .ref a16, .ref a17, .ref a18, .ref a19, .ref a20, .ref a21, .int 0, .ref a23, .ref a24, .null, .null, .null]) (Wl_mid (l1 := [(a24, _)]) (Wl_new (e := eI x 48 (fun _ => 0)) h23 f24))
  simp only [t_103_161, t_103_164, t_103_165, t_103_168, decide_true, decide_false, Bool.not_true, Bool.not_false, Nat.reduceLeDiff, Nat.reduceSub, z0_t, z1_f, z1_t, true_or, or_true,  if_true, if_false, Bool.false_eq_true, aft_v, aft_n, aftN_v, aftN_n, qwV_s, qwV_0, bI_if, bI_ok, bI_ok0, bI_ok1, true_and, va_up_ne _ _ n24, Wl_hd h23, List.length_cons, List.length_nil, List.set_cons_zero, List.set_cons_succ, Nat.reduceAdd, Nat.reduceLT, qwO_s, ng384, cl384]
  generalize va_up (va_up _ a24 _) a _ = w24 at h24 ⊢
  intro a25 f25
  have n25 : a ≠ a25 := fr_ne f25 (Wl_hd h24)
  have h25 := Wl_up (e1 := eO 8 [.int 0, .ref a1, .ref a2, .int 0, .ref a4, .ref a5, .ref a6, .ref a7, .int 0, .ref a9, .ref a10, .ref a11, .ref a12, .int 0, .ref a14, .ref a15, .ref a16, .ref a17, .ref a18, .ref a19, .ref a20, .ref a21, .int 0, .ref a23, .ref a24, .ref a25, .null, .null]) (Wl_mid (l1 := [(a25, _)]) (Wl_new (e := eI x 384 (fun _ => 0)) h24 f25))
  simp only [t_103_170, t_103_173, t_103_174, t_103_176, decide_true, decide_false, Bool.not_true, Bool.not_false, Nat.reduceLeDiff, Nat.reduceSub, z0_t, z1_f, z1_t, true_or, or_true,  if_true, if_false, Bool.false_eq_true, aft_v, aft_n, aftN_v, aftN_n, qwV_s, qwV_0, bI_if, bI_ok, bI_ok0, bI_ok1, true_and, va_up_ne _ _ n25, Wl_hd h24, List.length_cons, List.length_nil, List.set_cons_zero, List.set_cons_succ, Nat.reduceAdd, Nat.reduceLT, qwO_s, ng10, cl10]
  generalize va_up (va_up _ a25 _) a _ = w25 at h25 ⊢
  intro a26 f26
  have n26 : a ≠ a26 := fr_ne f26 (Wl_hd h25)
  have h26 := Wl_up (e1 := eO 8 [.int 0, .ref a1, .ref a2, .int 0, .ref a4, .ref a5, .ref a6, .ref a7, .int 0, .ref a9, .ref a10, .ref a11, .ref a12, .int 0, .ref a14, .ref a15, .ref a16, .ref a17, .ref a18, .ref a19, .ref a20, .ref a21, .int 0, .ref a23, .ref a24, .ref a25, .ref a26, .null]) (Wl_mid (l1 := [(a26, _)]) (Wl_new (e := eI x 10 (fun _ => 0)) h25 f26))
  simp only [t_103_178, t_103_181, t_103_182, t_103_184, decide_true, decide_false, Bool.not_true, Bool.not_false, Nat.reduceLeDiff, Nat.reduceSub, z0_t, z1_f, z1_t, true_or, or_true,  if_true, if_false, Bool.false_eq_true, aft_v, aft_n, aftN_v, aftN_n, qwV_s, qwV_0, bI_if, bI_ok, bI_ok0, bI_ok1, true_and, va_up_ne _ _ n26, Wl_hd h25, List.length_cons, List.length_nil, List.set_cons_zero, List.set_cons_succ, Nat.reduceAdd, Nat.reduceLT, qwO_s, ng10, cl10]
  generalize va_up (va_up _ a26 _) a _ = w26 at h26 ⊢
  intro a27 f27
  have n27 : a ≠ a27 := fr_ne f27 (Wl_hd h26)
  have h27 := Wl_up (e1 := eO 8 [.int 0, .ref a1, .ref a2, .int 0, .ref a4, .ref a5, .ref a6, .ref a7, .int 0, .ref a9, .ref a10, .ref a11, .ref a12, .int 0, .ref a14, .ref a15, .ref a16, .ref a17, .ref a18, .ref a19, .ref a20, .ref a21, .int 0, .ref a23, .ref a24, .ref a25, .ref a26, .ref a27]) (Wl_mid (l1 := [(a27, _)]) (Wl_new (e := eI x 10 (fun _ => 0)) h26 f27))
  simp only [t_103_186, t_103_189, decide_true, decide_false, Bool.not_true, Bool.not_false, Nat.reduceLeDiff, Nat.reduceSub, z0_t, z1_f, z1_t, true_or, or_true,  if_true, if_false, Bool.false_eq_true, aft_v, aft_n, aftN_v, aftN_n, qwV_s, qwV_0, bI_if, bI_ok, bI_ok0, bI_ok1, true_and, va_up_ne _ _ n27, Wl_hd h26, List.length_cons, List.length_nil, List.set_cons_zero, List.set_cons_succ, Nat.reduceAdd, Nat.reduceLT, qwO_s]
  exact hK a1 a2 a4 a5 a6 a7 a9 a10 a11 a12 a14 a15 a16 a17 a18 a19 a20 a21 a23 a24 a25 a26 a27 _ h27
end
