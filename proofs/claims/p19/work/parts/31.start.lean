/-! the start: what is there, a list of cells -/
def Wl (x : Cx) (qs : List (Nat × va_E)) (w : Wd) : Prop := (qs.map Prod.fst).Nodup ∧ (∀ q ∈ qs, w q.1 = some q.2) ∧ (∀ b, b ∉ qs.map Prod.fst → w b = none) ∧ ∀ q ∈ qs, q.1 ≠ xE x ∧ q.1 ≠ xB x
section
variable {x : Cx} {w w' : Wd} {qs rest : List (Nat × va_E)} {a o : Nat} {e e0 e1 : va_E} {K : Po}
theorem Wl_no (h : Wl x qs w) (ho : w o = none) : o ∉ qs.map Prod.fst := by
  intro hm
  obtain ⟨q, hq, rfl⟩ := List.mem_map.mp hm
  rw [h.2.1 q hq] at ho
  cases ho
theorem Wl_new (h : Wl x qs w) (ho : frs x w o) : Wl x ((o, e) :: qs) (va_up w o (some e)) := by
  have hn := Wl_no h ho.1
  refine ⟨List.nodup_cons.mpr ⟨hn, h.1⟩, fun q hq => ?_, fun b hb => ?_, fun q hq => ?_⟩
  · rcases List.mem_cons.mp hq with rfl | hq
    · exact va_up_self _ _ _
    · have : q.1 ≠ o := fun z => hn (z ▸ List.mem_map_of_mem hq)
      rw [va_up_ne _ _ this]
      exact h.2.1 q hq
  · simp only [List.map_cons, List.mem_cons, not_or] at hb
    rw [va_up_ne _ _ hb.1]
    exact h.2.2.1 b hb.2
  · rcases List.mem_cons.mp hq with rfl | hq
    · exact ho.2
    · exact h.2.2.2 q hq
theorem Wl_ext (h : Wl x ((a, e0) :: rest) w) (h1 : w' a = some e1) (h2 : ∀ b, b ≠ a → w' b = w b) : Wl x ((a, e1) :: rest) w' := by
  obtain ⟨n1, n2⟩ := List.nodup_cons.mp h.1
  refine ⟨h.1, fun q hq => ?_, fun b hb => ?_, fun q hq => ?_⟩
  · rcases List.mem_cons.mp hq with rfl | hq
    · exact h1
    · have : q.1 ≠ a := fun z => n1 (by show a ∈ _; rw [← z]; exact List.mem_map_of_mem hq)
      rw [h2 _ this]
      exact h.2.1 q (List.mem_cons_of_mem _ hq)
  · have hb' := hb
    simp only [List.map_cons, List.mem_cons, not_or] at hb
    rw [h2 _ hb.1]
    exact h.2.2.1 b hb'
  · rcases List.mem_cons.mp hq with rfl | hq
    · exact h.2.2.2 (a, e0) List.mem_cons_self
    · exact h.2.2.2 q (List.mem_cons_of_mem _ hq)
theorem Wl_up (h : Wl x ((a, e0) :: rest) w) : Wl x ((a, e1) :: rest) (va_up w a (some e1)) := Wl_ext h (va_up_self _ _ _) (fun b hb => va_up_ne _ _ hb)
theorem Wl_mid {l1 l2 : List (Nat × va_E)} {q : Nat × va_E} (h : Wl x (l1 ++ q :: l2) w) : Wl x (q :: (l1 ++ l2)) w := by
  have hp : (q :: (l1 ++ l2)).Perm (l1 ++ q :: l2) := List.perm_middle.symm
  refine ⟨((hp.map Prod.fst).nodup_iff).mpr h.1, fun r hr => h.2.1 r (hp.mem_iff.mp hr), fun b hb => h.2.2.1 b (fun z => hb ((hp.map Prod.fst).mem_iff.mpr z)), fun r hr => h.2.2.2 r (hp.mem_iff.mp hr)⟩
theorem Wl_hd (h : Wl x ((a, e0) :: rest) w) : w a = some e0 := h.2.1 _ List.mem_cons_self
/-- more cells, and the head changed -/
theorem Wl_add (h : Wl x ((a, e0) :: rest) w) {new : List (Nat × va_E)} (hn : ∀ q ∈ new, frs x w q.1 ∧ w' q.1 = some q.2) (hd : (new.map Prod.fst).Nodup) (h1 : w' a = some e1) (h2 : ∀ b, b ≠ a → b ∉ new.map Prod.fst → w' b = w b) : Wl x ((a, e1) :: (new ++ rest)) w' := by
  obtain ⟨n1, n2⟩ := List.nodup_cons.mp h.1
  have dis : ∀ q ∈ new, q.1 ∉ ((a, e0) :: rest).map Prod.fst := fun q hq => Wl_no h (hn q hq).1.1
  have an : a ∉ new.map Prod.fst := by
    intro hm
    obtain ⟨q, hq, e⟩ := List.mem_map.mp hm
    exact dis q hq (by rw [e]; simp)
  have hw : w a = some e0 := Wl_hd h
  refine ⟨?_, fun q hq => ?_, fun b hb => ?_, fun q hq => ?_⟩
  · rw [List.map_cons, List.map_append, List.nodup_cons, List.nodup_append]
    refine ⟨fun hm => ?_, hd, n2, fun b hb c hc z => ?_⟩
    · rcases List.mem_append.mp hm with hm | hm
      · exact an hm
      · exact n1 hm
    · obtain ⟨q, hq, rfl⟩ := List.mem_map.mp hb
      exact dis q hq (List.mem_cons_of_mem _ (z ▸ hc))
  · rcases List.mem_cons.mp hq with rfl | hq
    · exact h1
    · rcases List.mem_append.mp hq with hq | hq
      · exact (hn q hq).2
      · have b1 : q.1 ≠ a := fun z => n1 (by show a ∈ _; rw [← z]; exact List.mem_map_of_mem hq)
        rw [h2 _ b1 (fun hm => by
          obtain ⟨r, hr, e⟩ := List.mem_map.mp hm
          exact dis r hr (by rw [e]; exact List.mem_cons_of_mem _ (List.mem_map_of_mem hq)))]
        exact h.2.1 q (List.mem_cons_of_mem _ hq)
  · simp only [List.map_cons, List.map_append, List.mem_cons, List.mem_append, not_or] at hb
    rw [h2 b hb.1 hb.2.1]
    exact h.2.2.1 b (by simp only [List.map_cons, List.mem_cons, not_or]; exact ⟨hb.1, hb.2.2⟩)
  · rcases List.mem_cons.mp hq with rfl | hq
    · exact h.2.2.2 (a, e0) List.mem_cons_self
    · rcases List.mem_append.mp hq with hq | hq
      · exact (hn q hq).1.2
      · exact h.2.2.2 q (List.mem_cons_of_mem _ hq)
theorem w59 (h : Wl x ((o, eO 5 [.null]) :: rest) w) (hK : ∀ (o1 : Nat) (w' : Wd), Wl x ((o, eO 5 [.ref o1]) :: ([(o1, eO 0 [.int (nI 0), .ref (xE x), .int 0])] ++ rest)) w' → K (.inl none) w') : CL x 59 [.ref o] w K :=
  s59 (Wl_hd h) (fun o1 w' h1 g0 g1 gb => hK o1 w' (Wl_add h (by simp [h1, g1]) (by simp) g0 (fun b b0 bn => gb b b0 (by simpa using bn))))
theorem w52 (h : Wl x ((o, eO 2 [.null]) :: rest) w) (hK : ∀ (o1 : Nat) (w' : Wd), Wl x ((o, eO 2 [.ref o1]) :: ([(o1, eO 0 [.int (nI 0), .ref (xE x), .int 0])] ++ rest)) w' → K (.inl none) w') : CL x 52 [.ref o] w K :=
  s52 (Wl_hd h) (fun o1 w' h1 g0 g1 gb => hK o1 w' (Wl_add h (by simp [h1, g1]) (by simp) g0 (fun b b0 bn => gb b b0 (by simpa using bn))))
theorem w20 (h : Wl x ((o, eO 3 [.null, .null, .null]) :: rest) w) (hK : ∀ (o1 o2 o3 : Nat) (w' : Wd), Wl x ((o, eO 3 [.ref o1, .ref o2, .ref o3]) :: ([(o1, eI x 10 (fun _ => 0)), (o2, eI x 10 (fun _ => 0)), (o3, eI x 64 (fun _ => 0))] ++ rest)) w' → K (.inl none) w') : CL x 20 [.ref o] w K :=
  s20 (Wl_hd h) (fun o1 o2 o3 w' h1 h2 h3 d1 d2 d3 g0 g1 g2 g3 gb => hK o1 o2 o3 w' (Wl_add h (by simp [h1, h2, h3, g1, g2, g3]) (by simp [d1, d2, d3]) g0 (fun b b0 bn => by
    simp at bn
    exact gb b b0 bn.1 bn.2.1 bn.2.2)))
theorem w39 (h : Wl x ((o, eO 4 [.null, .null, .int 0, .int 0]) :: rest) w) (hK : ∀ (o1 o2 : Nat) (w' : Wd), Wl x ((o, eO 4 [.ref o1, .ref o2, .int (nI 0), .int (nI 0)]) :: ([(o1, eI x 8 (fun _ => 0)), (o2, eI x 4 (fun _ => 0))] ++ rest)) w' → K (.inl none) w') : CL x 39 [.ref o] w K :=
  s39 (Wl_hd h) (fun o1 o2 w' h1 h2 d1 g0 g1 g2 gb => hK o1 o2 w' (Wl_add h (by simp [h1, h2, g1, g2]) (by simp [d1]) g0 (fun b b0 bn => by
    simp at bn
    exact gb b b0 bn.1 bn.2)))
theorem w3 (h : Wl x ((o, eO 0 [.int 0, .null, .int 0]) :: rest) w) (hK : ∀ w' : Wd, Wl x ((o, eO 0 [.int (nI 0), .ref (xE x), .int 0]) :: rest) w' → K (.inl none) w') : CL x 3 [.ref o] w K := by
  rw [s3 (Wl_hd h)]
  exact hK _ (Wl_up h)

theorem s72 {a : Nat} (h : Wl x ((a, eO 7 [.null, .null, .null, .null, .null]) :: rest) w) (hK : ∀ (r1 r2 n1 n2 sl pc p1 p2 p3 rd d1 d2 : Nat) (w' : Wd), Wl x ((a, eO 7 [.ref r1, .ref n1, .ref sl, .ref pc, .ref rd]) :: ([(rd, eO 4 [.ref d1, .ref d2, .int (nI 0), .int (nI 0)]), (d1, eI x 8 (fun _ => 0)), (d2, eI x 4 (fun _ => 0)), (pc, eO 3 [.ref p1, .ref p2, .ref p3]), (p1, eI x 10 (fun _ => 0)), (p2, eI x 10 (fun _ => 0)), (p3, eI x 64 (fun _ => 0)), (sl, eO 0 [.int (nI 0), .ref (xE x), .int 0]), (n1, eO 2 [.ref n2]), (n2, eO 0 [.int (nI 0), .ref (xE x), .int 0]), (r1, eO 5 [.ref r2]), (r2, eO 0 [.int (nI 0), .ref (xE x), .int 0])] ++ rest)) w' → K (.inl none) w') : CL x 72 [.ref a] w K := by
  rw [CL_72]
  simp only [t_72_0, t_72_1, t_72_4, t_72_5, decide_true, decide_false, Bool.not_true, Bool.not_false, Nat.reduceLeDiff, Nat.reduceSub, z0_t, z1_f, z1_t, true_or, or_true,  if_true, if_false, Bool.false_eq_true, aft_v, aft_n, aftN_v, aftN_n, qwV_s, qwV_0, bI_if, bI_ok, bI_ok0, bI_ok1, true_and]
  intro r1 f1
  have h1 := Wl_new (e := eO 5 [.null]) h f1
  simp only [t_72_8, t_72_9, decide_true, decide_false, Bool.not_true, Bool.not_false, Nat.reduceLeDiff, Nat.reduceSub, z0_t, z1_f, z1_t, true_or, or_true,  if_true, if_false, Bool.false_eq_true, aft_v, aft_n, aftN_v, aftN_n, qwV_s, qwV_0, bI_if, bI_ok, bI_ok0, bI_ok1, true_and, dfl_5]
  refine w59 h1 (fun r2 w1 h1 => ?_)
  have h1 := Wl_mid (l1 := [(r1, _), (r2, _)]) h1
  simp only [t_72_12, decide_true, decide_false, Bool.not_true, Bool.not_false, Nat.reduceLeDiff, Nat.reduceSub, z0_t, z1_f, z1_t, true_or, or_true,  if_true, if_false, Bool.false_eq_true, aft_v, aft_n, aftN_v, aftN_n, qwV_s, qwV_0, bI_if, bI_ok, bI_ok0, bI_ok1, true_and, Wl_hd h1, List.length_cons, List.length_nil, List.set_cons_zero, List.set_cons_succ, Nat.reduceAdd, Nat.reduceLT, qwO_s]
  have h2 := Wl_up (e1 := eO 7 [.ref r1, .null, .null, .null, .null]) h1
  simp only [t_72_15, t_72_16, decide_true, decide_false, Bool.not_true, Bool.not_false, Nat.reduceLeDiff, Nat.reduceSub, z0_t, z1_f, z1_t, true_or, or_true,  if_true, if_false, Bool.false_eq_true, aft_v, aft_n, aftN_v, aftN_n, qwV_s, qwV_0, bI_if, bI_ok, bI_ok0, bI_ok1, true_and]
  intro n1 f2
  have h3 := Wl_new (e := eO 2 [.null]) h2 f2
  simp only [t_72_19, t_72_20, decide_true, decide_false, Bool.not_true, Bool.not_false, Nat.reduceLeDiff, Nat.reduceSub, z0_t, z1_f, z1_t, true_or, or_true,  if_true, if_false, Bool.false_eq_true, aft_v, aft_n, aftN_v, aftN_n, qwV_s, qwV_0, bI_if, bI_ok, bI_ok0, bI_ok1, true_and, dfl_2]
  refine w52 h3 (fun n2 w2 h3 => ?_)
  have h3 := Wl_mid (l1 := [(n1, _), (n2, _)]) h3
  simp only [t_72_23, decide_true, decide_false, Bool.not_true, Bool.not_false, Nat.reduceLeDiff, Nat.reduceSub, z0_t, z1_f, z1_t, true_or, or_true,  if_true, if_false, Bool.false_eq_true, aft_v, aft_n, aftN_v, aftN_n, qwV_s, qwV_0, bI_if, bI_ok, bI_ok0, bI_ok1, true_and, Wl_hd h3, List.length_cons, List.length_nil, List.set_cons_zero, List.set_cons_succ, Nat.reduceAdd, Nat.reduceLT, qwO_s]
  have h4 := Wl_up (e1 := eO 7 [.ref r1, .ref n1, .null, .null, .null]) h3
  simp only [t_72_26, t_72_27, decide_true, decide_false, Bool.not_true, Bool.not_false, Nat.reduceLeDiff, Nat.reduceSub, z0_t, z1_f, z1_t, true_or, or_true,  if_true, if_false, Bool.false_eq_true, aft_v, aft_n, aftN_v, aftN_n, qwV_s, qwV_0, bI_if, bI_ok, bI_ok0, bI_ok1, true_and]
  intro sl f3
  have h5 := Wl_new (e := eO 0 [.int 0, .null, .int 0]) h4 f3
  simp only [t_72_30, t_72_31, decide_true, decide_false, Bool.not_true, Bool.not_false, Nat.reduceLeDiff, Nat.reduceSub, z0_t, z1_f, z1_t, true_or, or_true,  if_true, if_false, Bool.false_eq_true, aft_v, aft_n, aftN_v, aftN_n, qwV_s, qwV_0, bI_if, bI_ok, bI_ok0, bI_ok1, true_and, dfl_0]
  refine w3 h5 (fun w3 h5 => ?_)
  have h5 := Wl_mid (l1 := [(sl, _)]) h5
  simp only [t_72_34, decide_true, decide_false, Bool.not_true, Bool.not_false, Nat.reduceLeDiff, Nat.reduceSub, z0_t, z1_f, z1_t, true_or, or_true,  if_true, if_false, Bool.false_eq_true, aft_v, aft_n, aftN_v, aftN_n, qwV_s, qwV_0, bI_if, bI_ok, bI_ok0, bI_ok1, true_and, Wl_hd h5, List.length_cons, List.length_nil, List.set_cons_zero, List.set_cons_succ, Nat.reduceAdd, Nat.reduceLT, qwO_s]
  have h6 := Wl_up (e1 := eO 7 [.ref r1, .ref n1, .ref sl, .null, .null]) h5
  simp only [t_72_37, t_72_38, decide_true, decide_false, Bool.not_true, Bool.not_false, Nat.reduceLeDiff, Nat.reduceSub, z0_t, z1_f, z1_t, true_or, or_true,  if_true, if_false, Bool.false_eq_true, aft_v, aft_n, aftN_v, aftN_n, qwV_s, qwV_0, bI_if, bI_ok, bI_ok0, bI_ok1, true_and]
  intro pc f4
  have h7 := Wl_new (e := eO 3 [.null, .null, .null]) h6 f4
  simp only [t_72_41, t_72_42, decide_true, decide_false, Bool.not_true, Bool.not_false, Nat.reduceLeDiff, Nat.reduceSub, z0_t, z1_f, z1_t, true_or, or_true,  if_true, if_false, Bool.false_eq_true, aft_v, aft_n, aftN_v, aftN_n, qwV_s, qwV_0, bI_if, bI_ok, bI_ok0, bI_ok1, true_and, dfl_3]
  refine w20 h7 (fun p1 p2 p3 w4 h7 => ?_)
  have h7 := Wl_mid (l1 := [(pc, _), (p1, _), (p2, _), (p3, _)]) h7
  simp only [t_72_45, decide_true, decide_false, Bool.not_true, Bool.not_false, Nat.reduceLeDiff, Nat.reduceSub, z0_t, z1_f, z1_t, true_or, or_true,  if_true, if_false, Bool.false_eq_true, aft_v, aft_n, aftN_v, aftN_n, qwV_s, qwV_0, bI_if, bI_ok, bI_ok0, bI_ok1, true_and, Wl_hd h7, List.length_cons, List.length_nil, List.set_cons_zero, List.set_cons_succ, Nat.reduceAdd, Nat.reduceLT, qwO_s]
  have h8 := Wl_up (e1 := eO 7 [.ref r1, .ref n1, .ref sl, .ref pc, .null]) h7
  simp only [t_72_48, t_72_49, decide_true, decide_false, Bool.not_true, Bool.not_false, Nat.reduceLeDiff, Nat.reduceSub, z0_t, z1_f, z1_t, true_or, or_true,  if_true, if_false, Bool.false_eq_true, aft_v, aft_n, aftN_v, aftN_n, qwV_s, qwV_0, bI_if, bI_ok, bI_ok0, bI_ok1, true_and]
  intro rd f5
  have h9 := Wl_new (e := eO 4 [.null, .null, .int 0, .int 0]) h8 f5
  simp only [t_72_52, t_72_53, decide_true, decide_false, Bool.not_true, Bool.not_false, Nat.reduceLeDiff, Nat.reduceSub, z0_t, z1_f, z1_t, true_or, or_true,  if_true, if_false, Bool.false_eq_true, aft_v, aft_n, aftN_v, aftN_n, qwV_s, qwV_0, bI_if, bI_ok, bI_ok0, bI_ok1, true_and, dfl_4]
  refine w39 h9 (fun d1 d2 w5 h9 => ?_)
  have h9 := Wl_mid (l1 := [(rd, _), (d1, _), (d2, _)]) h9
  simp only [t_72_56, t_72_59, decide_true, decide_false, Bool.not_true, Bool.not_false, Nat.reduceLeDiff, Nat.reduceSub, z0_t, z1_f, z1_t, true_or, or_true,  if_true, if_false, Bool.false_eq_true, aft_v, aft_n, aftN_v, aftN_n, qwV_s, qwV_0, bI_if, bI_ok, bI_ok0, bI_ok1, true_and, Wl_hd h9, List.length_cons, List.length_nil, List.set_cons_zero, List.set_cons_succ, Nat.reduceAdd, Nat.reduceLT, qwO_s]
  exact hK r1 r2 n1 n2 sl pc p1 p2 p3 rd d1 d2 _ (Wl_up h9)
end
