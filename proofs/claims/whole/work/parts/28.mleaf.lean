/-! the model's small methods -/
theorem inR_f {a v b : Int32} : (!decide (v < a) && !decide (b < v)) = inR a v b := by
  unfold inR
  have : decide (v ≤ b) = !decide (b < v) := by
    by_cases q : b < v
    · simp [q, Int32.not_le.mpr q]
    · simp [q, Int32.not_lt.mp q]
  rw [this]
theorem onR_eq {a b r t X Y : Int32} : onR a b r t X Y = (inR a X r && inR b Y t) := by
  rw [← inR_f, ← inR_f]
  unfold onR
  simp only [Bool.and_assoc]
theorem inN_eq {N : Nat} (hN : N < 2 ^ 30) {v : Int32} : inR (nI 0) v (nI N - nI 1) = inN N v := by
  unfold inR inN
  have h0 : (nI 0 : Int32) = 0 := nI_0
  rw [h0]
  by_cases q : v < 0
  · simp [q]
  · obtain ⟨j, hj, rfl⟩ := nI_of q
    simp only [q]
    congr 1
    cases N with
    | zero =>
      have h1 : ¬ nI j ≤ nI 0 - nI 1 := fun z => q (Int32.lt_of_le_of_lt z (by decide))
      rw [decide_eq_false h1, decide_eq_false (lt_f (Nat.zero_le j) hj)]
    | succ M =>
      rw [pk_sub (show 1 ≤ M + 1 by omega), Nat.add_sub_cancel, decide_eq_decide]
      exact (nI_leI hj (by omega)).trans (Iff.trans (by omega) (nI_ltI hj (by omega)).symm)
theorem isc_eq {v : Int32} : inR (nI 0) v (nI 3) = isc v := inN_eq (N := 4) (by decide)
theorem and1 (a : Int32) : (a &&& nI 1 = nI 1) ↔ ¬ (a &&& nI 1 = 0) := by
  obtain ⟨j, hj, e⟩ := pk_andE a (m := nI 1) 1 (by decide)
  rw [e]
  have : j = 0 ∨ j = 1 := by omega
  rcases this with rfl | rfl <;> decide
def absM (v : Int32) : Int32 := if v < 0 then -v else v
theorem absM_eq {v : Int32} : absM v = absI v := by
  unfold absM absI
  by_cases q : v < 0
  · rw [if_pos q, if_neg (Int32.not_le.mpr q), Int32.zero_sub]
  · rw [if_neg q, if_pos (Int32.not_lt.mp q)]
section
variable {x : Cx} {l : Ly} {n : Nn} {c : Cc} {mc ms : Nat} {w : Wd} {K post : Po}
theorem s106 {v a b : Int32} : CL x 106 [.int v, .int a, .int b] w K = K (.inl (some (.int (bI (inR a v b))))) w := by
  rw [CL_106, ← inR_f]
  simp only [t_106_0, t_106_1, t_106_2, t_106_5, t_106_6, t_106_7, t_106_10, t_106_11, t_106_14, t_106_15, Nat.reduceLeDiff, Nat.reduceSub, z0_t, z1_f, z1_t, true_or, or_true,  if_true, if_false, Bool.false_eq_true, aft_v, aft_n, aftN_v, aftN_n, qwV_s, qwV_0, bI_if, bI_ok, bI_ok0, bI_ok1, true_and]
  by_cases h1 : v < a <;> by_cases h2 : b < v <;> simp [h1, h2, bI_t, bI_f]
theorem s107 {a b : Int32} : CL x 107 [.int a, .int b] w K = K (.inl (some (.int (bI (inP a b))))) w := by
  rw [CL_107]
  simp only [t_107_0, t_107_1, t_107_2, t_107_4, t_107_7, t_107_10, t_107_11, t_107_12, t_107_14, t_107_17, t_107_20, t_107_21, t_107_24, t_107_25, Nat.reduceLeDiff, Nat.reduceSub, z0_t, z1_f, z1_t, true_or, or_true,  if_true, if_false, Bool.false_eq_true, aft_v, aft_n, aftN_v, aftN_n, qwV_s, qwV_0, bI_if, bI_ok, bI_ok0, bI_ok1, true_and, s106]
  unfold inP
  cases inR (nI 0) a (nI 39) <;> cases inR (nI 0) b (nI 39) <;> simp [bI_t, bI_f]
theorem s108 {v : Int32} : CL x 108 [.int v] w K = K (.inl (some (.int (bI (inR (nI 0) v (nI 3)))))) w := by
  rw [CL_108]
  simp only [t_108_0, t_108_1, t_108_2, t_108_3, t_108_6, Nat.reduceLeDiff, Nat.reduceSub, z0_t, z1_f, z1_t, true_or, or_true,  if_true, if_false, Bool.false_eq_true, aft_v, aft_n, aftN_v, aftN_n, qwV_s, qwV_0, bI_if, bI_ok, bI_ok0, bI_ok1, true_and, s106]
theorem s109 {v : Int32} : CL x 109 [.int v] w K = K (.inl (some (.int (bI (isc v))))) w := by
  rw [CL_109]
  simp only [t_109_0, t_109_1, t_109_2, t_109_3, t_109_6, Nat.reduceLeDiff, Nat.reduceSub, z0_t, z1_f, z1_t, true_or, or_true,  if_true, if_false, Bool.false_eq_true, aft_v, aft_n, aftN_v, aftN_n, qwV_s, qwV_0, bI_if, bI_ok, bI_ok0, bI_ok1, true_and, s106, isc_eq]
theorem s113 {s p : Int32} : CL x 113 [.int s, .int p] w K = K (.inl (some (.int (bI (hs s p))))) w := by
  rw [CL_113]
  simp only [t_113_0, t_113_1, t_113_2, t_113_3, t_113_4, t_113_5, t_113_6, t_113_9, t_113_10, t_113_13, t_113_14, Nat.reduceLeDiff, Nat.reduceSub, z0_t, z1_f, z1_t, true_or, or_true,  if_true, if_false, Bool.false_eq_true, aft_v, aft_n, aftN_v, aftN_n, qwV_s, qwV_0, bI_if, bI_ok, bI_ok0, bI_ok1, true_and, bI_ok0, bI_ok1, and1]
  unfold hs bI
  by_cases q : s >>> (p &&& 31) &&& nI 1 = 0 <;> simp [q]
theorem s105 (h : Lay x l n) {p : Int32} : CL x 105 [.ref (l.1 18 0), .int p] (Wo x l n c) K = K (.inl (some (.int (bI (decide (p = 0)))))) (Wo x l n (cu c 18 0 (upd (c 18 0) 0 p))) := by
  rw [CL_105]
  simp only [t_105_0, t_105_1, t_105_2, t_105_5, t_105_6, t_105_9, t_105_10, t_105_13, t_105_14, Nat.reduceLeDiff, Nat.reduceSub, z0_t, z1_f, z1_t, true_or, or_true,  if_true, if_false, Bool.false_eq_true, aft_v, aft_n, aftN_v, aftN_n, qwV_s, qwV_0, bI_if, bI_ok, bI_ok0, bI_ok1, true_and, o_18 h, List.length_cons, List.length_nil, List.set_cons_zero, List.set_cons_succ, Nat.reduceAdd, Nat.reduceLT, p_18_0 h]
  by_cases q : p = 0 <;> simp [q, bI_t, bI_f]
theorem s104 (h : Lay x l n) : CL x 104 [.ref (l.1 18 0)] (Wo x l n c) K = K (.inl (some (.int (c 18 0 0)))) (Wo x l n c) := by
  rw [CL_104]
  simp only [t_104_0, t_104_1, t_104_4, Nat.reduceLeDiff, Nat.reduceSub, z0_t, z1_f, z1_t, true_or, or_true,  if_true, if_false, Bool.false_eq_true, aft_v, aft_n, aftN_v, aftN_n, qwV_s, qwV_0, bI_if, bI_ok, bI_ok0, bI_ok1, true_and, f_18_0 h]
theorem s110 (h : Lay x l n) (hn : c 18 0 8 = nI n.1) (hN : n.1 ≤ 8) {v : Int32} : CL x 110 [.ref (l.1 18 0), .int v] (Wo x l n c) K = K (.inl (some (.int (bI (inN n.1 v))))) (Wo x l n c) := by
  rw [CL_110]
  simp only [t_110_0, t_110_1, t_110_2, t_110_3, t_110_6, t_110_7, t_110_8, t_110_11, Nat.reduceLeDiff, Nat.reduceSub, z0_t, z1_f, z1_t, true_or, or_true,  if_true, if_false, Bool.false_eq_true, aft_v, aft_n, aftN_v, aftN_n, qwV_s, qwV_0, bI_if, bI_ok, bI_ok0, bI_ok1, true_and, f_18_8 h, s106, hn, inN_eq (show n.1 < 2 ^ 30 by omega)]
theorem s111 (h : Lay x l n) (hn : c 18 0 13 = nI n.2.1) (hN : n.2.1 ≤ 10) {v : Int32} : CL x 111 [.ref (l.1 18 0), .int v] (Wo x l n c) K = K (.inl (some (.int (bI (inN n.2.1 v))))) (Wo x l n c) := by
  rw [CL_111]
  simp only [t_111_0, t_111_1, t_111_2, t_111_3, t_111_6, t_111_7, t_111_8, t_111_11, Nat.reduceLeDiff, Nat.reduceSub, z0_t, z1_f, z1_t, true_or, or_true,  if_true, if_false, Bool.false_eq_true, aft_v, aft_n, aftN_v, aftN_n, qwV_s, qwV_0, bI_if, bI_ok, bI_ok0, bI_ok1, true_and, f_18_13 h, s106, hn, inN_eq (show n.2.1 < 2 ^ 30 by omega)]
theorem s112 (h : Lay x l n) (hn : c 18 0 22 = nI n.2.2.1) (hN : n.2.2.1 ≤ 6) {v : Int32} : CL x 112 [.ref (l.1 18 0), .int v] (Wo x l n c) K = K (.inl (some (.int (bI (inN n.2.2.1 v))))) (Wo x l n c) := by
  rw [CL_112]
  simp only [t_112_0, t_112_1, t_112_2, t_112_3, t_112_6, t_112_7, t_112_8, t_112_11, Nat.reduceLeDiff, Nat.reduceSub, z0_t, z1_f, z1_t, true_or, or_true,  if_true, if_false, Bool.false_eq_true, aft_v, aft_n, aftN_v, aftN_n, qwV_s, qwV_0, bI_if, bI_ok, bI_ok0, bI_ok1, true_and, f_18_22 h, s106, hn, inN_eq (show n.2.2.1 < 2 ^ 30 by omega)]
theorem s116 (h : Lay x l n) {k : Nat} (hk : k < 64) {a b : Int32} : CL x 116 [.ref (l.1 18 0), .int (nI k), .int a, .int b] (Wo x l n c) K = K (.inl (some (.int (bI (decide (c 24 0 k = a) && decide (c 25 0 k = b)))))) (Wo x l n c) := by
  rw [CL_116]
  simp only [t_116_0, t_116_1, t_116_4, t_116_5, t_116_6, t_116_7, t_116_10, t_116_11, t_116_14, t_116_15, t_116_16, t_116_17, t_116_20, t_116_21, t_116_24, t_116_25, Nat.reduceLeDiff, Nat.reduceSub, z0_t, z1_f, z1_t, true_or, or_true,  if_true, if_false, Bool.false_eq_true, aft_v, aft_n, aftN_v, aftN_n, qwV_s, qwV_0, bI_if, bI_ok, bI_ok0, bI_ok1, true_and, f_18_0 h, f_18_1 h, f_18_2 h, f_18_3 h, f_18_4 h, f_18_5 h, f_18_6 h, f_18_7 h, f_18_8 h, f_18_9 h, f_18_10 h, f_18_11 h, f_18_12 h, f_18_13 h, f_18_14 h, f_18_15 h, f_18_16 h, f_18_17 h, f_18_18 h, f_18_19 h, f_18_20 h, f_18_21 h, f_18_22 h, f_18_23 h, f_18_24 h, f_18_25 h, f_18_26 h, f_18_27 h, rL_21 h, rL_22 h, rL_24 h, rL_25 h, rL_26 h, rL_27 h, rL_29 h, rL_30 h, rL_31 h, rL_32 h, rL_34 h, rL_35 h, rL_36 h, rL_37 h, rL_38 h, rL_39 h, rL_40 h, rL_43 h, rL_44 h, rL_45 h, rL_46 h, rL_47 h, rI_41 h, vp_in_nI hk (show 64 < 2 ^ 31 by decide), nI_clamp (show k < 2 ^ 31 by omega)]
  by_cases h1 : c 24 0 k = a <;> by_cases h2 : c 25 0 k = b <;> simp [h1, h2, bI_t, bI_f]
theorem s120 (h : Lay x l n) {r : Nat} (hr : r < 8) {s : Int32} : CL x 120 [.ref (l.1 18 0), .int (nI r), .int s] (Wo x l n c) K = K (.inl (some (.int (bI (!decide (c 27 0 r < s)))))) (Wo x l n c) := by
  rw [CL_120]
  simp only [t_120_0, t_120_1, t_120_4, t_120_5, t_120_6, t_120_7, t_120_10, t_120_11, t_120_14, t_120_15, Nat.reduceLeDiff, Nat.reduceSub, z0_t, z1_f, z1_t, true_or, or_true,  if_true, if_false, Bool.false_eq_true, aft_v, aft_n, aftN_v, aftN_n, qwV_s, qwV_0, bI_if, bI_ok, bI_ok0, bI_ok1, true_and, f_18_0 h, f_18_1 h, f_18_2 h, f_18_3 h, f_18_4 h, f_18_5 h, f_18_6 h, f_18_7 h, f_18_8 h, f_18_9 h, f_18_10 h, f_18_11 h, f_18_12 h, f_18_13 h, f_18_14 h, f_18_15 h, f_18_16 h, f_18_17 h, f_18_18 h, f_18_19 h, f_18_20 h, f_18_21 h, f_18_22 h, f_18_23 h, f_18_24 h, f_18_25 h, f_18_26 h, f_18_27 h, rL_21 h, rL_22 h, rL_24 h, rL_25 h, rL_26 h, rL_27 h, rL_29 h, rL_30 h, rL_31 h, rL_32 h, rL_34 h, rL_35 h, rL_36 h, rL_37 h, rL_38 h, rL_39 h, rL_40 h, rL_43 h, rL_44 h, rL_45 h, rL_46 h, rL_47 h, rI_41 h, vp_in_nI hr (show 8 < 2 ^ 31 by decide), nI_clamp (show r < 2 ^ 31 by omega)]
  by_cases h1 : c 27 0 r < s <;> simp [h1, bI_t, bI_f]
/-- twice the area, by the model's own rows -/
def triM (X Y : Nat → Int32) (k a b : Nat) : Int32 := absI ((X b - X k) * (Y a - Y k) - (Y b - Y k) * (X a - X k))
theorem s122 (h : Lay x l n) {k a b : Nat} (hk : k < 64) (ha : a < 64) (hb : b < 64) : CL x 122 [.ref (l.1 18 0), .int (nI k), .int (nI a), .int (nI b)] (Wo x l n c) K = K (.inl (some (.int (triM (c 24 0) (c 25 0) k a b)))) (Wo x l n c) := by
  rw [CL_122]
  simp only [t_122_0, t_122_1, t_122_4, t_122_5, t_122_6, t_122_7, t_122_10, t_122_11, t_122_12, t_122_13, t_122_14, t_122_17, t_122_18, t_122_19, t_122_20, t_122_23, t_122_24, t_122_25, t_122_26, t_122_27, t_122_28, t_122_31, t_122_32, t_122_33, t_122_34, t_122_37, t_122_38, t_122_39, t_122_40, t_122_41, t_122_44, t_122_45, t_122_46, t_122_47, t_122_50, t_122_51, t_122_52, t_122_53, t_122_54, t_122_55, t_122_57, t_122_59, t_122_62, t_122_64, t_122_65, t_122_68, t_122_70, Nat.reduceLeDiff, Nat.reduceSub, z0_t, z1_f, z1_t, true_or, or_true,  if_true, if_false, Bool.false_eq_true, aft_v, aft_n, aftN_v, aftN_n, qwV_s, qwV_0, bI_if, bI_ok, bI_ok0, bI_ok1, true_and, f_18_0 h, f_18_1 h, f_18_2 h, f_18_3 h, f_18_4 h, f_18_5 h, f_18_6 h, f_18_7 h, f_18_8 h, f_18_9 h, f_18_10 h, f_18_11 h, f_18_12 h, f_18_13 h, f_18_14 h, f_18_15 h, f_18_16 h, f_18_17 h, f_18_18 h, f_18_19 h, f_18_20 h, f_18_21 h, f_18_22 h, f_18_23 h, f_18_24 h, f_18_25 h, f_18_26 h, f_18_27 h, rL_21 h, rL_22 h, rL_24 h, rL_25 h, rL_26 h, rL_27 h, rL_29 h, rL_30 h, rL_31 h, rL_32 h, rL_34 h, rL_35 h, rL_36 h, rL_37 h, rL_38 h, rL_39 h, rL_40 h, rL_43 h, rL_44 h, rL_45 h, rL_46 h, rL_47 h, rI_41 h, vp_in_nI hk (show 64 < 2 ^ 31 by decide), vp_in_nI ha (show 64 < 2 ^ 31 by decide), vp_in_nI hb (show 64 < 2 ^ 31 by decide), nI_clamp (show k < 2 ^ 31 by omega), nI_clamp (show a < 2 ^ 31 by omega), nI_clamp (show b < 2 ^ 31 by omega)]
  unfold triM
  rw [← absM_eq]
  unfold absM
  by_cases q : (c 24 0 b - c 24 0 k) * (c 25 0 a - c 25 0 k) - (c 25 0 b - c 25 0 k) * (c 24 0 a - c 24 0 k) < 0
  · simp only [if_pos q, if_neg (Int32.not_le.mpr q)]
  · simp only [if_neg q, if_pos (Int32.not_lt.mp q)]
theorem s133 (h : Lay x l n) {s : Nat} (hs' : s < 6) {X Y : Int32} : CL x 133 [.ref (l.1 18 0), .int (nI s), .int X, .int Y] (Wo x l n c) K = K (.inl (some (.int (bI (onR (c 35 0 s) (c 36 0 s) (c 37 0 s) (c 38 0 s) X Y))))) (Wo x l n c) := by
  rw [CL_133, onR_eq]
  simp only [t_133_0, t_133_1, t_133_2, t_133_5, t_133_6, t_133_7, t_133_8, t_133_11, t_133_12, t_133_13, t_133_16, t_133_19, t_133_20, t_133_21, t_133_24, t_133_25, t_133_26, t_133_27, t_133_30, t_133_31, t_133_32, t_133_35, t_133_38, t_133_39, t_133_42, t_133_43, Nat.reduceLeDiff, Nat.reduceSub, z0_t, z1_f, z1_t, true_or, or_true,  if_true, if_false, Bool.false_eq_true, aft_v, aft_n, aftN_v, aftN_n, qwV_s, qwV_0, bI_if, bI_ok, bI_ok0, bI_ok1, true_and, f_18_0 h, f_18_1 h, f_18_2 h, f_18_3 h, f_18_4 h, f_18_5 h, f_18_6 h, f_18_7 h, f_18_8 h, f_18_9 h, f_18_10 h, f_18_11 h, f_18_12 h, f_18_13 h, f_18_14 h, f_18_15 h, f_18_16 h, f_18_17 h, f_18_18 h, f_18_19 h, f_18_20 h, f_18_21 h, f_18_22 h, f_18_23 h, f_18_24 h, f_18_25 h, f_18_26 h, f_18_27 h, rL_21 h, rL_22 h, rL_24 h, rL_25 h, rL_26 h, rL_27 h, rL_29 h, rL_30 h, rL_31 h, rL_32 h, rL_34 h, rL_35 h, rL_36 h, rL_37 h, rL_38 h, rL_39 h, rL_40 h, rL_43 h, rL_44 h, rL_45 h, rL_46 h, rL_47 h, rI_41 h, vp_in_nI hs' (show 6 < 2 ^ 31 by decide), nI_clamp (show s < 2 ^ 31 by omega), s106]
  cases inR (c 35 0 s) X (c 37 0 s) <;> cases inR (c 36 0 s) Y (c 38 0 s) <;> simp [bI_t, bI_f]
theorem s134 (h : Lay x l n) {m : Nat} (hm : m < 10) {sd : Int32} : CL x 134 [.ref (l.1 18 0), .int (nI m), .int sd] (Wo x l n c) K = K (.inl (some (.int (lbX (c 29 0 m) (c 31 0 m) sd)))) (Wo x l n c) := by
  rw [CL_134]
  simp only [t_134_0, t_134_1, t_134_4, t_134_5, t_134_8, t_134_9, t_134_10, t_134_11, t_134_12, t_134_15, t_134_16, t_134_17, t_134_20, t_134_21, t_134_24, t_134_25, t_134_26, t_134_27, t_134_30, t_134_31, t_134_32, t_134_33, t_134_36, t_134_37, t_134_40, t_134_41, t_134_42, Nat.reduceLeDiff, Nat.reduceSub, z0_t, z1_f, z1_t, true_or, or_true,  if_true, if_false, Bool.false_eq_true, aft_v, aft_n, aftN_v, aftN_n, qwV_s, qwV_0, bI_if, bI_ok, bI_ok0, bI_ok1, true_and, f_18_0 h, f_18_1 h, f_18_2 h, f_18_3 h, f_18_4 h, f_18_5 h, f_18_6 h, f_18_7 h, f_18_8 h, f_18_9 h, f_18_10 h, f_18_11 h, f_18_12 h, f_18_13 h, f_18_14 h, f_18_15 h, f_18_16 h, f_18_17 h, f_18_18 h, f_18_19 h, f_18_20 h, f_18_21 h, f_18_22 h, f_18_23 h, f_18_24 h, f_18_25 h, f_18_26 h, f_18_27 h, rL_21 h, rL_22 h, rL_24 h, rL_25 h, rL_26 h, rL_27 h, rL_29 h, rL_30 h, rL_31 h, rL_32 h, rL_34 h, rL_35 h, rL_36 h, rL_37 h, rL_38 h, rL_39 h, rL_40 h, rL_43 h, rL_44 h, rL_45 h, rL_46 h, rL_47 h, rI_41 h, vp_in_nI hm (show 10 < 2 ^ 31 by decide), nI_clamp (show m < 2 ^ 31 by omega)]
  unfold lbX
  by_cases h1 : sd = 0
  · simp only [if_pos h1]
  · by_cases h2 : sd = nI 1
    · simp only [if_neg h1, if_pos h2]
    · simp only [if_neg h1, if_neg h2]
theorem s135 (h : Lay x l n) {m : Nat} (hm : m < 10) {sd : Int32} : CL x 135 [.ref (l.1 18 0), .int (nI m), .int sd] (Wo x l n c) K = K (.inl (some (.int (lbY (c 30 0 m) sd)))) (Wo x l n c) := by
  rw [CL_135]
  simp only [t_135_0, t_135_1, t_135_2, t_135_5, t_135_6, t_135_9, t_135_10, t_135_11, t_135_12, t_135_13, t_135_16, t_135_17, t_135_18, t_135_21, t_135_22, t_135_25, t_135_26, t_135_27, t_135_28, t_135_29, t_135_32, t_135_33, t_135_36, t_135_37, t_135_38, Nat.reduceLeDiff, Nat.reduceSub, z0_t, z1_f, z1_t, true_or, or_true,  if_true, if_false, Bool.false_eq_true, aft_v, aft_n, aftN_v, aftN_n, qwV_s, qwV_0, bI_if, bI_ok, bI_ok0, bI_ok1, true_and, f_18_0 h, f_18_1 h, f_18_2 h, f_18_3 h, f_18_4 h, f_18_5 h, f_18_6 h, f_18_7 h, f_18_8 h, f_18_9 h, f_18_10 h, f_18_11 h, f_18_12 h, f_18_13 h, f_18_14 h, f_18_15 h, f_18_16 h, f_18_17 h, f_18_18 h, f_18_19 h, f_18_20 h, f_18_21 h, f_18_22 h, f_18_23 h, f_18_24 h, f_18_25 h, f_18_26 h, f_18_27 h, rL_21 h, rL_22 h, rL_24 h, rL_25 h, rL_26 h, rL_27 h, rL_29 h, rL_30 h, rL_31 h, rL_32 h, rL_34 h, rL_35 h, rL_36 h, rL_37 h, rL_38 h, rL_39 h, rL_40 h, rL_43 h, rL_44 h, rL_45 h, rL_46 h, rL_47 h, rI_41 h, vp_in_nI hm (show 10 < 2 ^ 31 by decide), nI_clamp (show m < 2 ^ 31 by omega)]
  unfold lbY
  by_cases h1 : sd = nI 2
  · simp only [if_pos h1]
  · by_cases h2 : sd = nI 3
    · simp only [if_neg h1, if_pos h2]
    · simp only [if_neg h1, if_neg h2]
/-- the label with first place f and length g takes the place -/
def takM (f g X Y : Int32) : Bool := !decide (f = -1) && (decide (Y = yO f) && inR (xO f) X (xO f + g - nI 1))
theorem s136 (h : Lay x l n) {m : Nat} (hm : m < 10) {X Y : Int32} : CL x 136 [.ref (l.1 18 0), .int (nI m), .int X, .int Y] (Wo x l n c) K = K (.inl (some (.int (bI (takM (c 47 0 m) (c 31 0 m) X Y))))) (Wo x l n c) := by
  rw [CL_136]
  simp only [t_136_0, t_136_1, t_136_4, t_136_5, t_136_6, t_136_7, t_136_10, t_136_11, t_136_12, t_136_15, t_136_16, t_136_17, t_136_19, t_136_20, t_136_23, t_136_24, t_136_25, t_136_28, t_136_29, t_136_30, t_136_32, t_136_33, t_136_34, t_136_37, t_136_38, t_136_39, t_136_41, t_136_42, t_136_43, t_136_46, t_136_47, t_136_48, t_136_49, t_136_50, t_136_51, t_136_54, t_136_57, t_136_58, t_136_61, t_136_62, Nat.reduceLeDiff, Nat.reduceSub, z0_t, z1_f, z1_t, true_or, or_true,  if_true, if_false, Bool.false_eq_true, aft_v, aft_n, aftN_v, aftN_n, qwV_s, qwV_0, bI_if, bI_ok, bI_ok0, bI_ok1, true_and, f_18_0 h, f_18_1 h, f_18_2 h, f_18_3 h, f_18_4 h, f_18_5 h, f_18_6 h, f_18_7 h, f_18_8 h, f_18_9 h, f_18_10 h, f_18_11 h, f_18_12 h, f_18_13 h, f_18_14 h, f_18_15 h, f_18_16 h, f_18_17 h, f_18_18 h, f_18_19 h, f_18_20 h, f_18_21 h, f_18_22 h, f_18_23 h, f_18_24 h, f_18_25 h, f_18_26 h, f_18_27 h, rL_21 h, rL_22 h, rL_24 h, rL_25 h, rL_26 h, rL_27 h, rL_29 h, rL_30 h, rL_31 h, rL_32 h, rL_34 h, rL_35 h, rL_36 h, rL_37 h, rL_38 h, rL_39 h, rL_40 h, rL_43 h, rL_44 h, rL_45 h, rL_46 h, rL_47 h, rI_41 h, vp_in_nI hm (show 10 < 2 ^ 31 by decide), nI_clamp (show m < 2 ^ 31 by omega), n40, s106]
  unfold takM
  have e1 : c 47 0 m / nI 40 = yO (c 47 0 m) := rfl
  have e2 : c 47 0 m - c 47 0 m / nI 40 * nI 40 = xO (c 47 0 m) := rfl
  simp only [e2]
  simp only [e1]
  by_cases h1 : c 47 0 m = -1 <;> by_cases h2 : Y = yO (c 47 0 m) <;> cases inR (xO (c 47 0 m)) X (xO (c 47 0 m) + c 31 0 m - nI 1) <;> simp [h1, h2, bI_t, bI_f]
theorem s125_l {S : Int32} : ∀ (d j : Nat) (a : Int32), j + d = 8 → WP x 125 4 [some (.int S), some (.int a), some (.int (nI j))] [] w mc ms post = post (.inl (some (.int (cntI (fun p => hs S (nI p)) d j a)))) w
  | 0, j, a, hj => by
    rw [t_125_4]
    simp only [t_125_5, t_125_7, t_125_10, t_125_11, t_125_12, t_125_13, t_125_16, t_125_19, t_125_20, t_125_23, t_125_24, t_125_25, t_125_26, t_125_29, t_125_32, t_125_33, Nat.reduceLeDiff, Nat.reduceSub, z0_t, z1_f, z1_t, true_or, or_true,  if_true, if_false, Bool.false_eq_true, aft_v, aft_n, aftN_v, aftN_n, qwV_s, qwV_0, bI_if, bI_ok, bI_ok0, bI_ok1, true_and, if_pos (le_t (show 8 ≤ j by omega) (show j < 2 ^ 31 by omega)), cntI_0]
  | d + 1, j, a, hj => by
    have ih := fun a => s125_l (S := S) d (j + 1) a (by omega)
    rw [t_125_4]
    simp only [t_125_5, t_125_7, t_125_10, t_125_11, t_125_12, t_125_13, t_125_16, t_125_19, t_125_20, t_125_23, t_125_24, t_125_25, t_125_26, t_125_29, t_125_32, t_125_33, Nat.reduceLeDiff, Nat.reduceSub, z0_t, z1_f, z1_t, true_or, or_true,  if_true, if_false, Bool.false_eq_true, aft_v, aft_n, aftN_v, aftN_n, qwV_s, qwV_0, bI_if, bI_ok, bI_ok0, bI_ok1, true_and, if_neg (le_f (show j < 8 by omega) (show 8 < 2 ^ 31 by decide)), s113, nI_add, ih]
    rw [cntI_s]
    cases hs S (nI j) <;> simp [nI_0]
def cnt8 (S : Int32) : Int32 := cntI (fun p => hs S (nI p)) 8 0 (nI 0)
theorem s125 {S : Int32} : CL x 125 [.int S] w K = K (.inl (some (.int (cnt8 S)))) w := by
  rw [CL_125]
  simp only [t_125_0, t_125_1, t_125_2, t_125_3, s125_l 8 0 _ rfl, cnt8]
end
