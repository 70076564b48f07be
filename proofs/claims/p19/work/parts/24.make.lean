/-! what is made -/
theorem cl4 : (nI 4).toNatClampNeg = 4 := by decide
theorem cl8 : (nI 8).toNatClampNeg = 8 := by decide
theorem cl10 : (nI 10).toNatClampNeg = 10 := by decide
theorem cl64 : (nI 64).toNatClampNeg = 64 := by decide
theorem ng4 : (¬ nI 4 < 0) = True := eq_true (by decide)
theorem ng8 : (¬ nI 8 < 0) = True := eq_true (by decide)
theorem ng10 : (¬ nI 10 < 0) = True := eq_true (by decide)
theorem ng64 : (¬ nI 64 < 0) = True := eq_true (by decide)
section
variable {x : Cx} {w : Wd} {K : Po}
theorem fr_up {a o : Nat} {e : va_E} (h : frs x (va_up w a (some e)) o) : o ≠ a ∧ frs x w o := by
  have h1 := h.1
  unfold va_up at h1
  by_cases q : o = a
  · rw [if_pos q] at h1
    cases h1
  · rw [if_neg q] at h1
    exact ⟨q, h1, h.2⟩
theorem fr_ne {a o : Nat} {e : va_E} (h : frs x w o) (ha : w a = some e) : a ≠ o := by
  rintro rfl
  rw [h.1] at ha
  cases ha
theorem s13 {o : Nat} {a b d e : Int32} (hw : w o = some (eO 1 [.int 0, .int 0, .int 0, .int 0])) : CL x 13 [.ref o, .int a, .int b, .int d, .int e] w K = K (.inl none) (va_up w o (some (eO 1 [.int d, .int e, .int a, .int b]))) := by
  rw [CL_13]
  simp only [t_13_0, t_13_1, t_13_4, t_13_5, t_13_6, t_13_9, t_13_10, t_13_11, t_13_14, t_13_15, t_13_16, t_13_19, t_13_20, t_13_22, t_13_25, decide_true, decide_false, Bool.not_true, Bool.not_false, Nat.reduceLeDiff, Nat.reduceSub, z0_t, z1_f, z1_t, true_or, or_true,  if_true, if_false, Bool.false_eq_true, aft_v, aft_n, aftN_v, aftN_n, qwV_s, qwV_0, bI_if, bI_ok, bI_ok0, bI_ok1, true_and, hw, qwO_s, va_up_self, List.length_cons, List.length_nil, List.set_cons_zero, List.set_cons_succ, Nat.reduceAdd, Nat.reduceLT, va_up_up]
theorem s20 {o : Nat} (hw : w o = some (eO 3 [.null, .null, .null])) (hK : ∀ (o1 o2 o3 : Nat) (w' : Wd), frs x w o1 → frs x w o2 → frs x w o3 → o1 ≠ o2 → o1 ≠ o3 → o2 ≠ o3 → w' o = some (eO 3 [.ref o1, .ref o2, .ref o3]) → w' o1 = some (eI x 10 (fun _ => 0)) → w' o2 = some (eI x 10 (fun _ => 0)) → w' o3 = some (eI x 64 (fun _ => 0)) → (∀ b, b ≠ o → b ≠ o1 → b ≠ o2 → b ≠ o3 → w' b = w b) → K (.inl none) w') : CL x 20 [.ref o] w K := by
  rw [CL_20]
  simp only [t_20_0, t_20_1, t_20_4, t_20_5, t_20_7, decide_true, decide_false, Bool.not_true, Bool.not_false, Nat.reduceLeDiff, Nat.reduceSub, z0_t, z1_f, z1_t, true_or, or_true,  if_true, if_false, Bool.false_eq_true, aft_v, aft_n, aftN_v, aftN_n, qwV_s, qwV_0, bI_if, bI_ok, bI_ok0, bI_ok1, true_and, ng10, cl10]
  intro o1 h1
  have n1 := fr_ne h1 hw
  simp only [t_20_0, t_20_1, t_20_4, t_20_5, t_20_7, t_20_9, t_20_12, t_20_13, t_20_15, decide_true, decide_false, Bool.not_true, Bool.not_false, Nat.reduceLeDiff, Nat.reduceSub, z0_t, z1_f, z1_t, true_or, or_true,  if_true, if_false, Bool.false_eq_true, aft_v, aft_n, aftN_v, aftN_n, qwV_s, qwV_0, bI_if, bI_ok, bI_ok0, bI_ok1, true_and, ng10, cl10, va_up_ne _ _ n1, hw, qwO_s, List.length_cons, List.length_nil, List.set_cons_zero, List.set_cons_succ, Nat.reduceAdd, Nat.reduceLT]
  intro o2 h2
  obtain ⟨n2, h2⟩ := fr_up h2
  obtain ⟨n3, h2⟩ := fr_up h2
  simp only [t_20_0, t_20_1, t_20_4, t_20_5, t_20_7, t_20_9, t_20_12, t_20_13, t_20_15, t_20_17, t_20_20, t_20_21, t_20_23, decide_true, decide_false, Bool.not_true, Bool.not_false, Nat.reduceLeDiff, Nat.reduceSub, z0_t, z1_f, z1_t, true_or, or_true,  if_true, if_false, Bool.false_eq_true, aft_v, aft_n, aftN_v, aftN_n, qwV_s, qwV_0, bI_if, bI_ok, bI_ok0, bI_ok1, true_and, ng64, cl64, va_up_ne _ _ (Ne.symm n2), va_up_self, qwO_s, List.length_cons, List.length_nil, List.set_cons_zero, List.set_cons_succ, Nat.reduceAdd, Nat.reduceLT]
  intro o3 h3
  obtain ⟨n4, h3⟩ := fr_up h3
  obtain ⟨n5, h3⟩ := fr_up h3
  obtain ⟨n6, h3⟩ := fr_up h3
  obtain ⟨n7, h3⟩ := fr_up h3
  simp only [t_20_0, t_20_1, t_20_4, t_20_5, t_20_7, t_20_9, t_20_12, t_20_13, t_20_15, t_20_17, t_20_20, t_20_21, t_20_23, t_20_25, t_20_28, decide_true, decide_false, Bool.not_true, Bool.not_false, Nat.reduceLeDiff, Nat.reduceSub, z0_t, z1_f, z1_t, true_or, or_true,  if_true, if_false, Bool.false_eq_true, aft_v, aft_n, aftN_v, aftN_n, qwV_s, qwV_0, bI_if, bI_ok, bI_ok0, bI_ok1, true_and, va_up_ne _ _ (Ne.symm n4), va_up_self, qwO_s, List.length_cons, List.length_nil, List.set_cons_zero, List.set_cons_succ, Nat.reduceAdd, Nat.reduceLT]
  refine hK o1 o2 o3 _ h1 h2 h3 (Ne.symm n3) (Ne.symm n7) (Ne.symm n5) ?_ ?_ ?_ ?_ ?_
  · simp only [va_up_self]
  · simp only [va_up_ne _ _ (Ne.symm n1), va_up_ne _ _ (Ne.symm n7), va_up_ne _ _ (Ne.symm n3), va_up_self]
  · simp only [va_up_ne _ _ n2, va_up_ne _ _ (Ne.symm n5), va_up_self]
  · simp only [va_up_ne _ _ n4, va_up_self]
  · intro b b0 b1 b2 b3
    simp only [va_up_ne _ _ b0, va_up_ne _ _ b1, va_up_ne _ _ b2, va_up_ne _ _ b3]
theorem s39 {o : Nat} (hw : w o = some (eO 4 [.null, .null, .int 0, .int 0])) (hK : ∀ (o1 o2 : Nat) (w' : Wd), frs x w o1 → frs x w o2 → o1 ≠ o2 → w' o = some (eO 4 [.ref o1, .ref o2, .int (nI 0), .int (nI 0)]) → w' o1 = some (eI x 8 (fun _ => 0)) → w' o2 = some (eI x 4 (fun _ => 0)) → (∀ b, b ≠ o → b ≠ o1 → b ≠ o2 → w' b = w b) → K (.inl none) w') : CL x 39 [.ref o] w K := by
  rw [CL_39]
  simp only [t_39_0, t_39_1, t_39_4, t_39_5, t_39_7, decide_true, decide_false, Bool.not_true, Bool.not_false, Nat.reduceLeDiff, Nat.reduceSub, z0_t, z1_f, z1_t, true_or, or_true,  if_true, if_false, Bool.false_eq_true, aft_v, aft_n, aftN_v, aftN_n, qwV_s, qwV_0, bI_if, bI_ok, bI_ok0, bI_ok1, true_and, ng8, cl8]
  intro o1 h1
  have n1 := fr_ne h1 hw
  simp only [t_39_0, t_39_1, t_39_4, t_39_5, t_39_7, t_39_9, t_39_12, t_39_13, t_39_14, decide_true, decide_false, Bool.not_true, Bool.not_false, Nat.reduceLeDiff, Nat.reduceSub, z0_t, z1_f, z1_t, true_or, or_true,  if_true, if_false, Bool.false_eq_true, aft_v, aft_n, aftN_v, aftN_n, qwV_s, qwV_0, bI_if, bI_ok, bI_ok0, bI_ok1, true_and, ng4, cl4, va_up_ne _ _ n1, hw, qwO_s, List.length_cons, List.length_nil, List.set_cons_zero, List.set_cons_succ, Nat.reduceAdd, Nat.reduceLT]
  intro o2 h2
  obtain ⟨n2, h2⟩ := fr_up h2
  obtain ⟨n3, h2⟩ := fr_up h2
  simp only [t_39_0, t_39_1, t_39_4, t_39_5, t_39_7, t_39_9, t_39_12, t_39_13, t_39_14, t_39_16, t_39_19, t_39_20, t_39_21, t_39_24, t_39_25, t_39_26, t_39_29, decide_true, decide_false, Bool.not_true, Bool.not_false, Nat.reduceLeDiff, Nat.reduceSub, z0_t, z1_f, z1_t, true_or, or_true,  if_true, if_false, Bool.false_eq_true, aft_v, aft_n, aftN_v, aftN_n, qwV_s, qwV_0, bI_if, bI_ok, bI_ok0, bI_ok1, true_and, va_up_ne _ _ (Ne.symm n2), va_up_self, qwO_s, List.length_cons, List.length_nil, List.set_cons_zero, List.set_cons_succ, Nat.reduceAdd, Nat.reduceLT]
  refine hK o1 o2 _ h1 h2 (Ne.symm n3) ?_ ?_ ?_ ?_
  · simp only [va_up_self]
  · simp only [va_up_ne _ _ (Ne.symm n1), va_up_ne _ _ (Ne.symm n3), va_up_self]
  · simp only [va_up_ne _ _ n2, va_up_self]
  · intro b b0 b1 b2
    simp only [va_up_ne _ _ b0, va_up_ne _ _ b1, va_up_ne _ _ b2]
theorem s31 {o : Nat} {a0 a1 a2 a3 a4 a5 : Int32} (hw : w o = some (eO 6 [.int 0, .int 0, .int 0, .int 0, .int 0, .int 0, .null, .int 0, .int 0])) (hK : ∀ (q o1 o2 o3 : Nat) (w' : Wd), frs x w q → frs x w o1 → frs x w o2 → frs x w o3 → q ≠ o1 → q ≠ o2 → q ≠ o3 → o1 ≠ o2 → o1 ≠ o3 → o2 ≠ o3 → w' o = some (eO 6 [.int a0, .int a1, .int a2, .int a3, .int a4, .int a5, .ref q, .int (nI 0), .int (nI 0)]) → w' q = some (eO 3 [.ref o1, .ref o2, .ref o3]) → w' o1 = some (eI x 10 (fun _ => 0)) → w' o2 = some (eI x 10 (fun _ => 0)) → w' o3 = some (eI x 64 (fun _ => 0)) → (∀ b, b ≠ o → b ≠ q → b ≠ o1 → b ≠ o2 → b ≠ o3 → w' b = w b) → K (.inl none) w') : CL x 31 [.ref o, .int a0, .int a1, .int a2, .int a3, .int a4, .int a5] w K := by
  rw [CL_31]
  simp only [t_31_0, t_31_1, t_31_4, t_31_5, decide_true, decide_false, Bool.not_true, Bool.not_false, Nat.reduceLeDiff, Nat.reduceSub, z0_t, z1_f, z1_t, true_or, or_true,  if_true, if_false, Bool.false_eq_true, aft_v, aft_n, aftN_v, aftN_n, qwV_s, qwV_0, bI_if, bI_ok, bI_ok0, bI_ok1, true_and]
  intro q hq
  have n1 := fr_ne hq hw
  simp only [t_31_0, t_31_1, t_31_4, t_31_5, t_31_8, t_31_9, decide_true, decide_false, Bool.not_true, Bool.not_false, Nat.reduceLeDiff, Nat.reduceSub, z0_t, z1_f, z1_t, true_or, or_true,  if_true, if_false, Bool.false_eq_true, aft_v, aft_n, aftN_v, aftN_n, qwV_s, qwV_0, bI_if, bI_ok, bI_ok0, bI_ok1, true_and, dfl_3]
  refine s20 (va_up_self _ _ _) (fun o1 o2 o3 w' h1 h2 h3 e12 e13 e23 g0 g1 g2 g3 gb => ?_)
  obtain ⟨m1, h1⟩ := fr_up h1
  obtain ⟨m2, h2⟩ := fr_up h2
  obtain ⟨m3, h3⟩ := fr_up h3
  have k1 := fr_ne h1 hw
  have k2 := fr_ne h2 hw
  have k3 := fr_ne h3 hw
  have go : w' o = some (eO 6 [.int 0, .int 0, .int 0, .int 0, .int 0, .int 0, .null, .int 0, .int 0]) := by rw [gb o n1 k1 k2 k3, va_up_ne _ _ n1, hw]
  simp only [t_31_0, t_31_1, t_31_4, t_31_5, t_31_8, t_31_9, t_31_12, t_31_15, t_31_16, t_31_17, t_31_20, t_31_21, t_31_22, t_31_25, t_31_26, t_31_27, t_31_30, t_31_31, t_31_32, t_31_35, t_31_36, t_31_37, t_31_40, t_31_41, t_31_43, t_31_46, t_31_47, t_31_49, t_31_52, t_31_53, t_31_55, t_31_58, decide_true, decide_false, Bool.not_true, Bool.not_false, Nat.reduceLeDiff, Nat.reduceSub, z0_t, z1_f, z1_t, true_or, or_true,  if_true, if_false, Bool.false_eq_true, aft_v, aft_n, aftN_v, aftN_n, qwV_s, qwV_0, bI_if, bI_ok, bI_ok0, bI_ok1, true_and, go, qwO_s, va_up_self, List.length_cons, List.length_nil, List.set_cons_zero, List.set_cons_succ, Nat.reduceAdd, Nat.reduceLT, va_up_up]
  refine hK q o1 o2 o3 _ hq h1 h2 h3 (Ne.symm m1) (Ne.symm m2) (Ne.symm m3) e12 e13 e23 ?_ ?_ ?_ ?_ ?_ ?_
  · simp only [va_up_self]
  · simp only [va_up_ne _ _ (Ne.symm n1), g0]
  · simp only [va_up_ne _ _ (Ne.symm k1), g1]
  · simp only [va_up_ne _ _ (Ne.symm k2), g2]
  · simp only [va_up_ne _ _ (Ne.symm k3), g3]
  · intro b b0 bq b1 b2 b3
    simp only [va_up_ne _ _ b0]
    rw [gb b bq b1 b2 b3, va_up_ne _ _ bq]
theorem s52 {o : Nat} (hw : w o = some (eO 2 [.null])) (hK : ∀ (o1 : Nat) (w' : Wd), frs x w o1 → w' o = some (eO 2 [.ref o1]) → w' o1 = some (eO 0 [.int (nI 0), .ref (xE x), .int 0]) → (∀ b, b ≠ o → b ≠ o1 → w' b = w b) → K (.inl none) w') : CL x 52 [.ref o] w K := by
  rw [CL_52]
  simp only [t_52_0, t_52_1, t_52_4, t_52_5, decide_true, decide_false, Bool.not_true, Bool.not_false, Nat.reduceLeDiff, Nat.reduceSub, z0_t, z1_f, z1_t, true_or, or_true,  if_true, if_false, Bool.false_eq_true, aft_v, aft_n, aftN_v, aftN_n, qwV_s, qwV_0, bI_if, bI_ok, bI_ok0, bI_ok1, true_and]
  intro o1 h1
  have n1 := fr_ne h1 hw
  have e3 := fun K => s3 (x := x) (w := va_up w o1 (some (eO 0 [.int 0, .null, .int 0]))) (a := o1) (K := K) (va_up_self _ _ _)
  simp only [t_52_0, t_52_1, t_52_4, t_52_5, t_52_8, t_52_9, t_52_12, t_52_15, decide_true, decide_false, Bool.not_true, Bool.not_false, Nat.reduceLeDiff, Nat.reduceSub, z0_t, z1_f, z1_t, true_or, or_true,  if_true, if_false, Bool.false_eq_true, aft_v, aft_n, aftN_v, aftN_n, qwV_s, qwV_0, bI_if, bI_ok, bI_ok0, bI_ok1, true_and, dfl_0, e3, va_up_up, va_up_ne _ _ n1, hw, qwO_s, List.length_cons, List.length_nil, List.set_cons_zero, List.set_cons_succ, Nat.reduceAdd, Nat.reduceLT]
  refine hK o1 _ h1 ?_ ?_ ?_
  · simp only [va_up_self]
  · simp only [va_up_ne _ _ (Ne.symm n1), va_up_self]
  · intro b b0 b1
    simp only [va_up_ne _ _ b0, va_up_ne _ _ b1]
theorem s59 {o : Nat} (hw : w o = some (eO 5 [.null])) (hK : ∀ (o1 : Nat) (w' : Wd), frs x w o1 → w' o = some (eO 5 [.ref o1]) → w' o1 = some (eO 0 [.int (nI 0), .ref (xE x), .int 0]) → (∀ b, b ≠ o → b ≠ o1 → w' b = w b) → K (.inl none) w') : CL x 59 [.ref o] w K := by
  rw [CL_59]
  simp only [t_59_0, t_59_1, t_59_4, t_59_5, decide_true, decide_false, Bool.not_true, Bool.not_false, Nat.reduceLeDiff, Nat.reduceSub, z0_t, z1_f, z1_t, true_or, or_true,  if_true, if_false, Bool.false_eq_true, aft_v, aft_n, aftN_v, aftN_n, qwV_s, qwV_0, bI_if, bI_ok, bI_ok0, bI_ok1, true_and]
  intro o1 h1
  have n1 := fr_ne h1 hw
  have e3 := fun K => s3 (x := x) (w := va_up w o1 (some (eO 0 [.int 0, .null, .int 0]))) (a := o1) (K := K) (va_up_self _ _ _)
  simp only [t_59_0, t_59_1, t_59_4, t_59_5, t_59_8, t_59_9, t_59_12, t_59_15, decide_true, decide_false, Bool.not_true, Bool.not_false, Nat.reduceLeDiff, Nat.reduceSub, z0_t, z1_f, z1_t, true_or, or_true,  if_true, if_false, Bool.false_eq_true, aft_v, aft_n, aftN_v, aftN_n, qwV_s, qwV_0, bI_if, bI_ok, bI_ok0, bI_ok1, true_and, dfl_0, e3, va_up_up, va_up_ne _ _ n1, hw, qwO_s, List.length_cons, List.length_nil, List.set_cons_zero, List.set_cons_succ, Nat.reduceAdd, Nat.reduceLT]
  refine hK o1 _ h1 ?_ ?_ ?_
  · simp only [va_up_self]
  · simp only [va_up_ne _ _ (Ne.symm n1), va_up_self]
  · intro b b0 b1
    simp only [va_up_ne _ _ b0, va_up_ne _ _ b1]
theorem s10a {a e r N : Nat} {f : Nat → Option Nat} (hw : w a = some (eO 0 [.int (nI N), .ref e, .int (nI N)])) (he : w e = some (eQ x 10 f)) (hr : qwK (w r) 4 ∨ qwK (w r) 1 ∨ qwK (w r) 6) (hN : N < 10) (hra : r ≠ a) (hre : r ≠ e) (hea : e ≠ a) (hK : ∀ w' : Wd, w' a = some (eO 0 [.int (nI (N + 1)), .ref e, .int (nI (N + 1))]) → w' e = some (eQ x 10 (va_up f N (some r))) → (∀ b, b ≠ a → b ≠ e → w' b = w b) → K (.inl (some (.int (nI 1)))) w') : CL x 10 [.ref a, .ref r] w K := by
  rw [CL_10]
  have hN' : ¬ nI N = nI 10 := fun q => by
    have := (nI_eq (show N < 2 ^ 31 by omega) (show 10 < 2 ^ 31 by decide)).mp q
    omega
  have hr' : (qwK (w r) 4 ∨ qwK (w r) 1 ∨ qwK (w r) 6) = True := eq_true hr
  simp only [t_10_0, t_10_1, t_10_2, t_10_5, t_10_6, t_10_7, t_10_10, t_10_11, t_10_12, t_10_13, t_10_16, t_10_17, t_10_20, t_10_23, t_10_24, decide_true, decide_false, Bool.not_true, Bool.not_false, Nat.reduceLeDiff, Nat.reduceSub, z0_t, z1_f, z1_t, true_or, or_true,  if_true, if_false, Bool.false_eq_true, aft_v, aft_n, aftN_v, aftN_n, qwV_s, qwV_0, bI_if, bI_ok, bI_ok0, bI_ok1, true_and, CL_9, t_9_0, t_9_1, t_9_2, t_9_3, t_9_6, t_9_7, t_9_10, t_9_11, t_9_12, t_9_13, t_9_14, t_9_15, t_9_16, t_9_17, t_9_18, t_9_19, t_9_22, hw, he, qwO_s, qwK_s, qwA_Q, qwQ_s, va_up_self, va_up_ne _ _ hea, va_up_ne _ _ (Ne.symm hea), va_up_ne _ _ hra, va_up_ne _ _ hre, List.length_cons, List.length_nil, List.set_cons_zero, List.set_cons_succ, Nat.reduceAdd, Nat.reduceLT, hN', hr', vp_in_nI hN (show 10 < 2 ^ 31 by decide), nI_clamp (show N < 2 ^ 31 by omega), nI_add]
  refine hK _ ?_ ?_ ?_
  · simp only [va_up_self]
  · simp only [va_up_ne _ _ hea, va_up_self]
  · intro b b0 b1
    simp only [va_up_ne _ _ b0, va_up_ne _ _ b1]
theorem s10b {a r : Nat} (hw : w a = some (eO 0 [.int (nI 0), .ref (xE x), .int (nI 0)])) (hE : w (xE x) = none) (hr : qwK (w r) 4 ∨ qwK (w r) 1 ∨ qwK (w r) 6) (hra : r ≠ a) (hK : ∀ (o : Nat) (w' : Wd), frs x w o → w' a = some (eO 0 [.int (nI 1), .ref o, .int (nI 1)]) → w' o = some (eQ x 10 (va_up (fun _ => none) 0 (some r))) → (∀ b, b ≠ a → b ≠ o → w' b = w b) → K (.inl (some (.int (nI 1)))) w') : CL x 10 [.ref a, .ref r] w K := by
  rw [CL_10]
  have hEa : xE x ≠ a := by
    intro q
    rw [← q, hE] at hw
    cases hw
  simp only [t_10_0, t_10_1, t_10_2, t_10_5, t_10_6, t_10_7, t_10_10, t_10_11, t_10_12, t_10_13, t_10_16, t_10_17, t_10_20, t_10_23, t_10_24, decide_true, decide_false, Bool.not_true, Bool.not_false, Nat.reduceLeDiff, Nat.reduceSub, z0_t, z1_f, z1_t, true_or, or_true,  if_true, if_false, Bool.false_eq_true, aft_v, aft_n, aftN_v, aftN_n, qwV_s, qwV_0, bI_if, bI_ok, bI_ok0, bI_ok1, true_and, CL_9, t_9_0, t_9_1, t_9_2, t_9_3, t_9_6, t_9_7, t_9_10, t_9_11, t_9_12, t_9_13, t_9_14, t_9_15, t_9_16, t_9_17, t_9_18, t_9_19, t_9_22, CL_5, t_5_0, t_5_1, t_5_2, t_5_5, t_5_6, t_5_7, t_5_10, CL_4, t_4_0, t_4_1, t_4_4, t_4_5, t_4_6, t_4_7, t_4_10, t_4_11, t_4_14, t_4_17, t_4_45, t_4_46, t_4_48, t_4_49, t_4_52, hw, hE, qwO_s, qwK_s, qwA_E, va_up_self, va_up_ne _ _ hEa, List.length_cons, List.length_nil, List.set_cons_zero, List.set_cons_succ, Nat.reduceAdd, Nat.reduceLT, show (0 < nI 0) = False from eq_false (by decide), nI_add, show (nI 10 < nI 1) = False from eq_false (by decide), ng10, cl10]
  intro o h1
  obtain ⟨n1, h1⟩ := fr_up h1
  have hro : r ≠ o := by
    rintro rfl
    rw [h1.1] at hr
    rcases hr with q | q | q <;> exact q
  have hr' : (qwK (w r) 4 ∨ qwK (w r) 1 ∨ qwK (w r) 6) = True := eq_true hr
  simp only [t_10_0, t_10_1, t_10_2, t_10_5, t_10_6, t_10_7, t_10_10, t_10_11, t_10_12, t_10_13, t_10_16, t_10_17, t_10_20, t_10_23, t_10_24, decide_true, decide_false, Bool.not_true, Bool.not_false, Nat.reduceLeDiff, Nat.reduceSub, z0_t, z1_f, z1_t, true_or, or_true,  if_true, if_false, Bool.false_eq_true, aft_v, aft_n, aftN_v, aftN_n, qwV_s, qwV_0, bI_if, bI_ok, bI_ok0, bI_ok1, true_and, t_9_0, t_9_1, t_9_2, t_9_3, t_9_6, t_9_7, t_9_10, t_9_11, t_9_12, t_9_13, t_9_14, t_9_15, t_9_16, t_9_17, t_9_18, t_9_19, t_9_22, t_5_0, t_5_1, t_5_2, t_5_5, t_5_6, t_5_7, t_5_10, t_4_0, t_4_1, t_4_4, t_4_5, t_4_6, t_4_7, t_4_10, t_4_11, t_4_14, t_4_17, t_4_45, t_4_46, t_4_48, t_4_49, t_4_52, t_4_55, t_4_56, t_4_59, hw, hE, qwO_s, qwK_s, qwQ_s, va_up_self, va_up_ne _ _ n1, va_up_ne _ _ (Ne.symm n1), va_up_ne _ _ hra, va_up_ne _ _ hro, List.length_cons, List.length_nil, List.set_cons_zero, List.set_cons_succ, Nat.reduceAdd, Nat.reduceLT, hr', vp_in_nI (show 0 < 10 by decide) (show 10 < 2 ^ 31 by decide), nI_clamp (show 0 < 2 ^ 31 by decide), nI_add]
  refine hK o _ h1 ?_ ?_ ?_
  · simp only [va_up_self]
  · simp only [va_up_ne _ _ n1, va_up_self]
  · intro b b0 b1
    simp only [va_up_ne _ _ b0, va_up_ne _ _ b1]
end
