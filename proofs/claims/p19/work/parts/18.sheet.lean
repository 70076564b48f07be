/-- the first k of g, the rest of f -/
def cp (k : Nat) (f g : Nat → Int32) : Nat → Int32 := fun j => if j < k then g j else f j
theorem cp_0 {f g : Nat → Int32} : cp 0 f g = f := rfl
theorem cp_u {k : Nat} {f g : Nat → Int32} {v : Int32} (hv : v = g k) : upd (cp k f g) k v = cp (k + 1) f g := by
  funext j
  unfold upd cp
  by_cases h1 : j = k
  · rw [if_pos h1, if_pos (by omega), h1, hv]
  · rw [if_neg h1]
    by_cases h2 : j < k
    · rw [if_pos h2, if_pos (by omega)]
    · rw [if_neg h2, if_neg (by omega)]
def onR (a b r t X Y : Int32) : Bool := !decide (X < a) && (!decide (r < X) && (!decide (Y < b) && !decide (t < Y)))
/-- the row of len places from X on lies between, free of the fold -/
def rmR (a b r t f X Y len : Int32) : Bool := (!decide (X < a) && (!decide (r < X + len - nI 1) && (!decide (Y < b) && !decide (t < Y)))) && !(!decide (f < X) && !decide (X + len - nI 1 < f))
section
variable {x : Cx} {l : Ly} {n : Nn} {c : Cc} {i q s z mc ms : Nat} {K post : Po}
theorem s14 (h : Lay x l n) (hi : i < n.2.1) : CL x 14 [.ref (l.1 12 i)] (Wo x l n c) K = K (.inl (some (.int (c 12 i 0)))) (Wo x l n c) := by
  rw [CL_14]
  simp only [t_14_0, t_14_1, t_14_4, decide_true, decide_false, Bool.not_true, Bool.not_false, Nat.reduceLeDiff, Nat.reduceSub, z0_t, z1_f, z1_t, true_or, or_true,  if_true, if_false, Bool.false_eq_true, aft_v, aft_n, aftN_v, aftN_n, qwV_s, qwV_0, bI_if, bI_ok, bI_ok0, bI_ok1, true_and, f_12_0 h hi]
theorem s15 (h : Lay x l n) (hi : i < n.2.1) : CL x 15 [.ref (l.1 12 i)] (Wo x l n c) K = K (.inl (some (.int (c 12 i 1)))) (Wo x l n c) := by
  rw [CL_15]
  simp only [t_15_0, t_15_1, t_15_4, decide_true, decide_false, Bool.not_true, Bool.not_false, Nat.reduceLeDiff, Nat.reduceSub, z0_t, z1_f, z1_t, true_or, or_true,  if_true, if_false, Bool.false_eq_true, aft_v, aft_n, aftN_v, aftN_n, qwV_s, qwV_0, bI_if, bI_ok, bI_ok0, bI_ok1, true_and, f_12_1 h hi]
theorem s16 (h : Lay x l n) (hi : i < n.2.1) : CL x 16 [.ref (l.1 12 i)] (Wo x l n c) K = K (.inl (some (.int (c 12 i 3 * nI 40 + c 12 i 2)))) (Wo x l n c) := by
  rw [CL_16]
  simp only [t_16_0, t_16_1, t_16_4, t_16_5, t_16_8, t_16_11, decide_true, decide_false, Bool.not_true, Bool.not_false, Nat.reduceLeDiff, Nat.reduceSub, z0_t, z1_f, z1_t, true_or, or_true,  if_true, if_false, Bool.false_eq_true, aft_v, aft_n, aftN_v, aftN_n, qwV_s, qwV_0, bI_if, bI_ok, bI_ok0, bI_ok1, true_and, f_12_2 h hi, f_12_3 h hi, s99]
theorem s17 (h : Lay x l n) (hi : i < n.2.1) {a b : Int32} : CL x 17 [.ref (l.1 12 i), .int a, .int b] (Wo x l n c) K = K (.inl none) (Wo x l n (cu c 12 i (upd (upd (c 12 i) 2 a) 3 b))) := by
  rw [CL_17]
  simp only [t_17_0, t_17_1, t_17_2, t_17_5, t_17_6, t_17_7, t_17_10, decide_true, decide_false, Bool.not_true, Bool.not_false, Nat.reduceLeDiff, Nat.reduceSub, z0_t, z1_f, z1_t, true_or, or_true,  if_true, if_false, Bool.false_eq_true, aft_v, aft_n, aftN_v, aftN_n, qwV_s, qwV_0, bI_if, bI_ok, bI_ok0, bI_ok1, true_and, o_12 h hi, List.length_cons, List.length_nil, List.set_cons_zero, List.set_cons_succ, Nat.reduceAdd, Nat.reduceLT, p_12_2 h hi]
  have h2 := p_12_3 h hi (c := cu c 12 i (upd (c 12 i) 2 a)) (v := b)
  rw [cu_cu] at h2
  simp only [cu_s] at h2 ⊢
  rw [h2]
def lbX (X len sd : Int32) : Int32 := if sd = 0 then X + nI 1 else if sd = nI 1 then X - len else X
def lbY (Y sd : Int32) : Int32 := if sd = nI 2 then Y + nI 1 else if sd = nI 3 then Y - nI 1 else Y
theorem s18 (h : Lay x l n) (hi : i < n.2.1) {sd : Int32} : CL x 18 [.ref (l.1 12 i), .int sd] (Wo x l n c) K = K (.inl (some (.int (lbX (c 12 i 2) (c 12 i 0) sd)))) (Wo x l n c) := by
  rw [CL_18]
  simp only [t_18_0, t_18_1, t_18_4, t_18_5, t_18_8, t_18_9, t_18_10, t_18_11, t_18_12, t_18_13, t_18_16, t_18_17, t_18_20, t_18_21, t_18_24, t_18_25, t_18_28, t_18_29, t_18_32, decide_true, decide_false, Bool.not_true, Bool.not_false, Nat.reduceLeDiff, Nat.reduceSub, z0_t, z1_f, z1_t, true_or, or_true,  if_true, if_false, Bool.false_eq_true, aft_v, aft_n, aftN_v, aftN_n, qwV_s, qwV_0, bI_if, bI_ok, bI_ok0, bI_ok1, true_and, f_12_0 h hi, f_12_2 h hi]
  unfold lbX
  split
  · rfl
  · split <;> rfl
theorem s19 (h : Lay x l n) (hi : i < n.2.1) {sd : Int32} : CL x 19 [.ref (l.1 12 i), .int sd] (Wo x l n c) K = K (.inl (some (.int (lbY (c 12 i 3) sd)))) (Wo x l n c) := by
  rw [CL_19]
  simp only [t_19_0, t_19_1, t_19_2, t_19_5, t_19_6, t_19_9, t_19_10, t_19_11, t_19_12, t_19_13, t_19_14, t_19_17, t_19_18, t_19_21, t_19_22, t_19_23, t_19_26, t_19_27, t_19_30, decide_true, decide_false, Bool.not_true, Bool.not_false, Nat.reduceLeDiff, Nat.reduceSub, z0_t, z1_f, z1_t, true_or, or_true,  if_true, if_false, Bool.false_eq_true, aft_v, aft_n, aftN_v, aftN_n, qwV_s, qwV_0, bI_if, bI_ok, bI_ok0, bI_ok1, true_and, f_12_3 h hi]
  unfold lbY
  split
  · rfl
  · split <;> rfl
theorem s32 (h : Lay x l n) (hi : s < n.2.2.1) : CL x 32 [.ref (l.1 13 s)] (Wo x l n c) K = K (.inl (some (.int (c 13 s 0)))) (Wo x l n c) := by
  rw [CL_32]
  simp only [t_32_0, t_32_1, t_32_4, decide_true, decide_false, Bool.not_true, Bool.not_false, Nat.reduceLeDiff, Nat.reduceSub, z0_t, z1_f, z1_t, true_or, or_true,  if_true, if_false, Bool.false_eq_true, aft_v, aft_n, aftN_v, aftN_n, qwV_s, qwV_0, bI_if, bI_ok, bI_ok0, bI_ok1, true_and, f_13_0 h hi]
theorem s33 (h : Lay x l n) (hi : s < n.2.2.1) : CL x 33 [.ref (l.1 13 s)] (Wo x l n c) K = K (.inl (some (.int (c 13 s 8)))) (Wo x l n c) := by
  rw [CL_33]
  simp only [t_33_0, t_33_1, t_33_4, decide_true, decide_false, Bool.not_true, Bool.not_false, Nat.reduceLeDiff, Nat.reduceSub, z0_t, z1_f, z1_t, true_or, or_true,  if_true, if_false, Bool.false_eq_true, aft_v, aft_n, aftN_v, aftN_n, qwV_s, qwV_0, bI_if, bI_ok, bI_ok0, bI_ok1, true_and, f_13_8 h hi]
theorem s34 (h : Lay x l n) (hi : s < n.2.2.1) {p : Int32} : CL x 34 [.ref (l.1 13 s), .int p] (Wo x l n c) K = K (.inl (some (.int (bI (onR (c 13 s 1) (c 13 s 2) (c 13 s 3) (c 13 s 4) (xO p) (yO p)))))) (Wo x l n c) := by
  rw [CL_34]
  simp only [t_34_0, t_34_1, t_34_4, t_34_5, t_34_6, t_34_9, t_34_10, t_34_11, t_34_12, t_34_15, t_34_18, t_34_19, t_34_20, t_34_23, t_34_26, t_34_27, t_34_28, t_34_31, t_34_34, t_34_35, t_34_36, t_34_39, t_34_42, t_34_43, t_34_46, t_34_47, decide_true, decide_false, Bool.not_true, Bool.not_false, Nat.reduceLeDiff, Nat.reduceSub, z0_t, z1_f, z1_t, true_or, or_true,  if_true, if_false, Bool.false_eq_true, aft_v, aft_n, aftN_v, aftN_n, qwV_s, qwV_0, bI_if, bI_ok, bI_ok0, bI_ok1, true_and, f_13_1 h hi, f_13_2 h hi, f_13_3 h hi, f_13_4 h hi, s100, s101]
  unfold onR
  by_cases h1 : xO p < c 13 s 1 <;> by_cases h2 : c 13 s 3 < xO p <;> by_cases h3 : yO p < c 13 s 2 <;> by_cases h4 : c 13 s 4 < yO p <;> simp [h1, h2, h3, h4, bI_t, bI_f]
theorem s35 (h : Lay x l n) (hi : s < n.2.2.1) {X Y len : Int32} : CL x 35 [.ref (l.1 13 s), .int X, .int Y, .int len] (Wo x l n c) K = K (.inl (some (.int (bI (rmR (c 13 s 1) (c 13 s 2) (c 13 s 3) (c 13 s 4) (c 13 s 5) X Y len))))) (Wo x l n c) := by
  rw [CL_35]
  simp only [t_35_0, t_35_1, t_35_2, t_35_3, t_35_4, t_35_5, t_35_7, t_35_8, t_35_9, t_35_12, t_35_15, t_35_17, t_35_18, t_35_21, t_35_24, t_35_25, t_35_26, t_35_29, t_35_32, t_35_33, t_35_34, t_35_37, t_35_40, t_35_41, t_35_44, t_35_45, t_35_47, t_35_48, t_35_51, t_35_52, t_35_55, t_35_56, t_35_59, t_35_61, t_35_64, t_35_65, t_35_68, t_35_69, t_35_71, t_35_73, t_35_76, t_35_78, t_35_81, t_35_82, t_35_85, t_35_86, decide_true, decide_false, Bool.not_true, Bool.not_false, Nat.reduceLeDiff, Nat.reduceSub, z0_t, z1_f, z1_t, true_or, or_true,  if_true, if_false, Bool.false_eq_true, aft_v, aft_n, aftN_v, aftN_n, qwV_s, qwV_0, bI_if, bI_ok, bI_ok0, bI_ok1, true_and, f_13_1 h hi, f_13_2 h hi, f_13_3 h hi, f_13_4 h hi, f_13_5 h hi]
  unfold rmR
  by_cases h1 : X < c 13 s 1 <;> by_cases h2 : c 13 s 3 < X + len - nI 1 <;> by_cases h3 : Y < c 13 s 2 <;> by_cases h4 : c 13 s 4 < Y <;> by_cases h5 : c 13 s 5 < X <;> by_cases h6 : X + len - nI 1 < c 13 s 5 <;> simp only [h1, h2, h3, h4, h5, h6, if_true, if_false, decide_true, decide_false, Bool.not_true, Bool.not_false, Bool.and_true, Bool.true_and, Bool.and_false, Bool.false_and, bI_t, bI_f]
theorem s38 (h : Lay x l n) (hi : s < n.2.2.1) {v : Int32} : CL x 38 [.ref (l.1 13 s), .int v] (Wo x l n c) K = K (.inl none) (Wo x l n (cu c 13 s (upd (c 13 s) 8 (c 13 s 8 - v)))) := by
  rw [CL_38]
  simp only [t_38_0, t_38_1, t_38_2, t_38_5, t_38_6, t_38_7, t_38_10, decide_true, decide_false, Bool.not_true, Bool.not_false, Nat.reduceLeDiff, Nat.reduceSub, z0_t, z1_f, z1_t, true_or, or_true,  if_true, if_false, Bool.false_eq_true, aft_v, aft_n, aftN_v, aftN_n, qwV_s, qwV_0, bI_if, bI_ok, bI_ok0, bI_ok1, true_and, o_13 h hi, f_13_8 h hi, List.length_cons, List.length_nil, List.set_cons_zero, List.set_cons_succ, Nat.reduceAdd, Nat.reduceLT, p_13_8 h hi]
/-! pictures -/
theorem s25 (h : Lay x l n) (hi : q < n.2.2.1 + 1) {p : Int32} : CL x 25 [.ref (l.1 14 q), .int p] (Wo x l n c) K = K (.inl (some (.int (rdA 10 (c 16 q) (-1) p)))) (Wo x l n c) := by
  rw [CL_25]
  simp only [t_25_0, t_25_1, t_25_4, t_25_5, t_25_6, t_25_9, t_25_10, t_25_13, t_25_14, t_25_17, t_25_18, t_25_19, t_25_22, t_25_23, decide_true, decide_false, Bool.not_true, Bool.not_false, Nat.reduceLeDiff, Nat.reduceSub, z0_t, z1_f, z1_t, true_or, or_true,  if_true, if_false, Bool.false_eq_true, aft_v, aft_n, aftN_v, aftN_n, qwV_s, qwV_0, bI_if, bI_ok, bI_ok0, bI_ok1, true_and, f_14_1 h hi, rA_16 h hi, rL_16 h hi]
  unfold rdA
  rcases pk_ix p (n := 10) (by decide) with q | q | ⟨j, hj, rfl⟩
  · simp only [if_pos q]
  · by_cases q2 : p < 0
    · simp only [if_pos q2]
    · simp only [if_pos q, if_neg q2]
  · simp only [vp_in_nI hj (by decide), true_and]
    split
    · rfl
    · split <;> rfl
theorem s26 (h : Lay x l n) (hi : q < n.2.2.1 + 1) {p : Int32} : CL x 26 [.ref (l.1 14 q), .int p] (Wo x l n c) K = K (.inl (some (.int (rdA 10 (c 15 q) (-1) p)))) (Wo x l n c) := by
  rw [CL_26]
  simp only [t_26_0, t_26_1, t_26_4, t_26_5, t_26_6, t_26_9, t_26_10, t_26_13, t_26_14, t_26_17, t_26_18, t_26_19, t_26_22, t_26_23, decide_true, decide_false, Bool.not_true, Bool.not_false, Nat.reduceLeDiff, Nat.reduceSub, z0_t, z1_f, z1_t, true_or, or_true,  if_true, if_false, Bool.false_eq_true, aft_v, aft_n, aftN_v, aftN_n, qwV_s, qwV_0, bI_if, bI_ok, bI_ok0, bI_ok1, true_and, f_14_0 h hi, rA_15 h hi, rL_15 h hi]
  unfold rdA
  rcases pk_ix p (n := 10) (by decide) with q | q | ⟨j, hj, rfl⟩
  · simp only [if_pos q]
  · by_cases q2 : p < 0
    · simp only [if_pos q2]
    · simp only [if_pos q, if_neg q2]
  · simp only [vp_in_nI hj (by decide), true_and]
    split
    · rfl
    · split <;> rfl
theorem s27 (h : Lay x l n) (hi : q < n.2.2.1 + 1) {r p : Int32} : CL x 27 [.ref (l.1 14 q), .int r, .int p] (Wo x l n c) K = K (.inl (some (.int (rdA 64 (c 17 q) (-1) (r * nI 8 + p))))) (Wo x l n c) := by
  rw [CL_27]
  simp only [t_27_0, t_27_1, t_27_3, t_27_4, t_27_5, t_27_6, t_27_7, t_27_8, t_27_11, t_27_12, t_27_13, t_27_16, t_27_17, t_27_20, t_27_21, t_27_24, t_27_25, t_27_26, t_27_29, t_27_30, decide_true, decide_false, Bool.not_true, Bool.not_false, Nat.reduceLeDiff, Nat.reduceSub, z0_t, z1_f, z1_t, true_or, or_true,  if_true, if_false, Bool.false_eq_true, aft_v, aft_n, aftN_v, aftN_n, qwV_s, qwV_0, bI_if, bI_ok, bI_ok0, bI_ok1, true_and, f_14_2 h hi, rA_17 h hi, rL_17 h hi]
  unfold rdA
  rcases pk_ix (r * nI 8 + p) (n := 64) (by decide) with q | q | ⟨j, hj, q⟩
  · simp only [if_pos q]
  · by_cases q2 : r * nI 8 + p < 0
    · simp only [if_pos q2]
    · simp only [if_pos q, if_neg q2]
  · simp only [q, vp_in_nI hj (by decide), true_and]
    split
    · rfl
    · split <;> rfl
theorem s23 (h : Lay x l n) (hi : q < n.2.2.1 + 1) {j : Nat} (hj : j < 10) {u v : Int32} : CL x 23 [.ref (l.1 14 q), .int (nI j), .int u, .int v] (Wo x l n c) K = K (.inl none) (Wo x l n (cu (cu c 16 q (upd (c 16 q) j u)) 15 q (upd (c 15 q) j v))) := by
  rw [CL_23]
  have h1 : cu c 16 q (upd (c 16 q) j u) 15 q = c 15 q := cu_k (by decide)
  simp only [t_23_0, t_23_1, t_23_4, t_23_5, t_23_6, t_23_9, t_23_10, t_23_13, t_23_14, t_23_15, t_23_18, t_23_19, t_23_22, t_23_23, t_23_26, t_23_27, t_23_28, t_23_29, t_23_30, t_23_33, t_23_34, t_23_35, t_23_36, decide_true, decide_false, Bool.not_true, Bool.not_false, Nat.reduceLeDiff, Nat.reduceSub, z0_t, z1_f, z1_t, true_or, or_true,  if_true, if_false, Bool.false_eq_true, aft_v, aft_n, aftN_v, aftN_n, qwV_s, qwV_0, bI_if, bI_ok, bI_ok0, bI_ok1, true_and, f_14_0 h hi, f_14_1 h hi, rA_15 h hi, rA_16 h hi, rI_15 h hi, rI_16 h hi, if_neg (nI_pos (show j < 2 ^ 31 by omega)), if_neg (le_f hj (by decide)), vp_in_nI hj (by decide), nI_clamp (show j < 2 ^ 31 by omega), p_15 h hi, p_16 h hi, h1]
theorem s24 (h : Lay x l n) (hi : q < n.2.2.1 + 1) {r p : Nat} (hr : r < 8) (hp : p < 8) {v : Int32} : CL x 24 [.ref (l.1 14 q), .int (nI r), .int (nI p), .int v] (Wo x l n c) K = K (.inl none) (Wo x l n (cu c 17 q (upd (c 17 q) (r * 8 + p) v))) := by
  rw [CL_24]
  have hj : r * 8 + p < 64 := by omega
  simp only [t_24_0, t_24_1, t_24_3, t_24_4, t_24_5, t_24_6, t_24_8, t_24_10, t_24_13, t_24_15, t_24_16, t_24_19, t_24_20, t_24_23, t_24_24, t_24_27, t_24_29, t_24_30, t_24_31, decide_true, decide_false, Bool.not_true, Bool.not_false, Nat.reduceLeDiff, Nat.reduceSub, z0_t, z1_f, z1_t, true_or, or_true,  if_true, if_false, Bool.false_eq_true, aft_v, aft_n, aftN_v, aftN_n, qwV_s, qwV_0, bI_if, bI_ok, bI_ok0, bI_ok1, true_and, pk_mul, nI_add, f_14_2 h hi, rA_17 h hi, rI_17 h hi, if_neg (nI_pos (show r * 8 + p < 2 ^ 31 by omega)), if_neg (le_f hj (by decide)), vp_in_nI hj (by decide), nI_clamp (show r * 8 + p < 2 ^ 31 by omega), p_17 h hi]
def nn1 : Nat → Int32 := fun _ => -1
theorem s21_l (h : Lay x l n) (hi : q < n.2.2.1 + 1) {f : Nat → Int32} : ∀ (d j : Nat), j + d = 10 → WP x 21 2 [some (.ref (l.1 14 q)), some (.int (nI j))] [] (Wo x l n (cu c 15 q (cp j f nn1))) mc ms post = WP x 21 2 [some (.ref (l.1 14 q)), some (.int (nI 10))] [] (Wo x l n (cu c 15 q (cp 10 f nn1))) mc ms post
  | 0, j, hj => by
    rw [show j = 10 by omega]
  | d + 1, j, hj => by
    have ih := s21_l h hi (f := f) d (j + 1) (by omega)
    rw [← ih, t_21_2]
    simp only [t_21_0, t_21_1, t_21_3, t_21_4, t_21_7, t_21_8, t_21_11, t_21_12, t_21_15, t_21_16, t_21_17, t_21_18, t_21_21, t_21_24, t_21_25, decide_true, decide_false, Bool.not_true, Bool.not_false, Nat.reduceLeDiff, Nat.reduceSub, z0_t, z1_f, z1_t, true_or, or_true,  if_true, if_false, Bool.false_eq_true, aft_v, aft_n, aftN_v, aftN_n, qwV_s, qwV_0, bI_if, bI_ok, bI_ok0, bI_ok1, true_and, f_14_0 h hi, rA_15 h hi, rI_15 h hi, if_neg (le_f (show j < 10 by omega) (by decide)), vp_in_nI (show j < 10 by omega) (show 10 < 2 ^ 31 by decide), nI_clamp (show j < 2 ^ 31 by omega), p_15 h hi, cu_s, cu_cu, nI_add, cp_u (show (-1 : Int32) = nn1 j from rfl)]
theorem s21_m (h : Lay x l n) (hi : q < n.2.2.1 + 1) {f : Nat → Int32} : ∀ (d j : Nat), j + d = 10 → WP x 21 26 [some (.ref (l.1 14 q)), some (.int (nI j))] [] (Wo x l n (cu c 16 q (cp j f nn1))) mc ms post = WP x 21 26 [some (.ref (l.1 14 q)), some (.int (nI 10))] [] (Wo x l n (cu c 16 q (cp 10 f nn1))) mc ms post
  | 0, j, hj => by
    rw [show j = 10 by omega]
  | d + 1, j, hj => by
    have ih := s21_m h hi (f := f) d (j + 1) (by omega)
    rw [← ih, t_21_26]
    simp only [t_21_27, t_21_28, t_21_31, t_21_32, t_21_35, t_21_36, t_21_39, t_21_40, t_21_41, t_21_42, t_21_45, t_21_48, decide_true, decide_false, Bool.not_true, Bool.not_false, Nat.reduceLeDiff, Nat.reduceSub, z0_t, z1_f, z1_t, true_or, or_true,  if_true, if_false, Bool.false_eq_true, aft_v, aft_n, aftN_v, aftN_n, qwV_s, qwV_0, bI_if, bI_ok, bI_ok0, bI_ok1, true_and, f_14_1 h hi, rA_16 h hi, rI_16 h hi, if_neg (le_f (show j < 10 by omega) (by decide)), vp_in_nI (show j < 10 by omega) (show 10 < 2 ^ 31 by decide), nI_clamp (show j < 2 ^ 31 by omega), p_16 h hi, cu_s, cu_cu, nI_add, cp_u (show (-1 : Int32) = nn1 j from rfl)]
theorem s21 (h : Lay x l n) (hi : q < n.2.2.1 + 1) : CL x 21 [.ref (l.1 14 q)] (Wo x l n c) K = K (.inl none) (Wo x l n (cu (cu c 15 q (cp 10 (c 15 q) nn1)) 16 q (cp 10 (c 16 q) nn1))) := by
  rw [CL_21]
  have e1 := s21_l h hi (c := c) (f := c 15 q) (mc := 0) (ms := 0) (post := K) 10 0 rfl
  have e2 := s21_m h hi (c := cu c 15 q (cp 10 (c 15 q) nn1)) (f := c 16 q) (mc := 0) (ms := 0) (post := K) 10 0 rfl
  rw [cp_0, cu_id] at e1
  rw [cp_0, show cu (cu c 15 q (cp 10 (c 15 q) nn1)) 16 q (c 16 q) = cu c 15 q (cp 10 (c 15 q) nn1) from (congrArg (cu _ 16 q) (cu_k (by decide)).symm).trans cu_id] at e2
  simp only [t_21_0, t_21_1, e1]
  rw [t_21_2]
  simp only [t_21_0, t_21_1, t_21_3, t_21_4, t_21_7, t_21_8, t_21_11, t_21_12, t_21_15, t_21_16, t_21_17, t_21_18, t_21_21, t_21_24, t_21_25, decide_true, decide_false, Bool.not_true, Bool.not_false, Nat.reduceLeDiff, Nat.reduceSub, z0_t, z1_f, z1_t, true_or, or_true,  if_true, if_false, Bool.false_eq_true, aft_v, aft_n, aftN_v, aftN_n, qwV_s, qwV_0, bI_if, bI_ok, bI_ok0, bI_ok1, true_and, f_14_0 h hi, rA_15 h hi, if_pos (le_t (Nat.le_refl 10) (by decide)), e2]
  rw [t_21_26]
  simp only [t_21_27, t_21_28, t_21_31, t_21_32, t_21_35, t_21_36, t_21_39, t_21_40, t_21_41, t_21_42, t_21_45, t_21_48, decide_true, decide_false, Bool.not_true, Bool.not_false, Nat.reduceLeDiff, Nat.reduceSub, z0_t, z1_f, z1_t, true_or, or_true,  if_true, if_false, Bool.false_eq_true, aft_v, aft_n, aftN_v, aftN_n, qwV_s, qwV_0, bI_if, bI_ok, bI_ok0, bI_ok1, true_and, f_14_1 h hi, rA_16 h hi, if_pos (le_t (Nat.le_refl 10) (by decide))]
theorem s22_l (h : Lay x l n) (hi : q < n.2.2.1 + 1) {f : Nat → Int32} : ∀ (d j : Nat), j + d = 64 → WP x 22 2 [some (.ref (l.1 14 q)), some (.int (nI j))] [] (Wo x l n (cu c 17 q (cp j f nn1))) mc ms post = WP x 22 2 [some (.ref (l.1 14 q)), some (.int (nI 64))] [] (Wo x l n (cu c 17 q (cp 64 f nn1))) mc ms post
  | 0, j, hj => by
    rw [show j = 64 by omega]
  | d + 1, j, hj => by
    have ih := s22_l h hi (f := f) d (j + 1) (by omega)
    rw [← ih, t_22_2]
    simp only [t_22_0, t_22_1, t_22_3, t_22_4, t_22_7, t_22_8, t_22_11, t_22_12, t_22_15, t_22_16, t_22_17, t_22_18, t_22_21, t_22_24, decide_true, decide_false, Bool.not_true, Bool.not_false, Nat.reduceLeDiff, Nat.reduceSub, z0_t, z1_f, z1_t, true_or, or_true,  if_true, if_false, Bool.false_eq_true, aft_v, aft_n, aftN_v, aftN_n, qwV_s, qwV_0, bI_if, bI_ok, bI_ok0, bI_ok1, true_and, f_14_2 h hi, rA_17 h hi, rI_17 h hi, if_neg (le_f (show j < 64 by omega) (by decide)), vp_in_nI (show j < 64 by omega) (show 64 < 2 ^ 31 by decide), nI_clamp (show j < 2 ^ 31 by omega), p_17 h hi, cu_s, cu_cu, nI_add, cp_u (show (-1 : Int32) = nn1 j from rfl)]
theorem s22 (h : Lay x l n) (hi : q < n.2.2.1 + 1) : CL x 22 [.ref (l.1 14 q)] (Wo x l n c) K = K (.inl none) (Wo x l n (cu c 17 q (cp 64 (c 17 q) nn1))) := by
  rw [CL_22]
  have e1 := s22_l h hi (c := c) (f := c 17 q) (mc := 0) (ms := 0) (post := K) 64 0 rfl
  rw [cp_0, cu_id] at e1
  simp only [t_22_0, t_22_1, e1]
  rw [t_22_2]
  simp only [t_22_0, t_22_1, t_22_3, t_22_4, t_22_7, t_22_8, t_22_11, t_22_12, t_22_15, t_22_16, t_22_17, t_22_18, t_22_21, t_22_24, decide_true, decide_false, Bool.not_true, Bool.not_false, Nat.reduceLeDiff, Nat.reduceSub, z0_t, z1_f, z1_t, true_or, or_true,  if_true, if_false, Bool.false_eq_true, aft_v, aft_n, aftN_v, aftN_n, qwV_s, qwV_0, bI_if, bI_ok, bI_ok0, bI_ok1, true_and, f_14_2 h hi, rA_17 h hi, if_pos (le_t (Nat.le_refl 64) (by decide))]
end
