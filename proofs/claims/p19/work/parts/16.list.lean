/-! the JDK's list -/
section
variable {x : Cx} {w : Wd} {K : Po} {mc ms : Nat} {post : Po}
theorem s1 {a : Nat} : CL x 1 [.ref a] w K = K (.inl none) w := by
  rw [CL_1]
  simp only [t_1_0, t_1_1, t_1_4, decide_true, decide_false, Bool.not_true, Bool.not_false, Nat.reduceLeDiff, Nat.reduceSub, z0_t, z1_f, z1_t, true_or, or_true,  if_true, if_false, Bool.false_eq_true, aft_v, aft_n, aftN_v, aftN_n, qwV_s, qwV_0, bI_if, bI_ok, bI_ok0, bI_ok1, true_and]
theorem s3 {a : Nat} {m0 : Value} {e0 : Value} {z : Value} (hw : w a = some (eO 0 [m0, e0, z])) : CL x 3 [.ref a] w K = K (.inl none) (va_up w a (some (eO 0 [.int (nI 0), .ref (xE x), z]))) := by
  rw [CL_3]
  simp only [t_3_0, t_3_1, t_3_4, t_3_5, t_3_8, t_3_11, decide_true, decide_false, Bool.not_true, Bool.not_false, Nat.reduceLeDiff, Nat.reduceSub, z0_t, z1_f, z1_t, true_or, or_true,  if_true, if_false, Bool.false_eq_true, aft_v, aft_n, aftN_v, aftN_n, qwV_s, qwV_0, bI_if, bI_ok, bI_ok0, bI_ok1, true_and, CL_2, t_2_0, t_2_1, t_2_4, t_2_5, t_2_6, t_2_9, s1, hw, qwO_s, List.length_cons, List.length_nil, List.set_cons_zero, List.set_cons_succ, Nat.reduceAdd, Nat.reduceLT, va_up_self]
  rw [va_up_up]
theorem s6 {a : Nat} {m0 e0 : Value} {z : Int32} (hw : w a = some (eO 0 [m0, e0, .int z])) : CL x 6 [.ref a] w K = K (.inl (some (.int z))) w := by
  rw [CL_6]
  simp only [t_6_0, t_6_1, t_6_4, decide_true, decide_false, Bool.not_true, Bool.not_false, Nat.reduceLeDiff, Nat.reduceSub, z0_t, z1_f, z1_t, true_or, or_true,  if_true, if_false, Bool.false_eq_true, aft_v, aft_n, aftN_v, aftN_n, qwV_s, qwV_0, bI_if, bI_ok, bI_ok0, bI_ok1, true_and, hw, qwO_s, qwV_s, qwV_0]
theorem s12 {i n : Nat} {v : Value} (h : i < n) (hn : n < 2 ^ 31) : CL x 12 [.int (nI i), .int (nI n), v] w K = K (.inl (some (.int (nI i)))) w := by
  rw [CL_12]
  simp only [t_12_0, t_12_1, t_12_4, t_12_5, t_12_6, t_12_16, t_12_17, decide_true, decide_false, Bool.not_true, Bool.not_false, Nat.reduceLeDiff, Nat.reduceSub, z0_t, z1_f, z1_t, true_or, or_true,  if_true, if_false, Bool.false_eq_true, aft_v, aft_n, aftN_v, aftN_n, qwV_s, qwV_0, bI_if, bI_ok, bI_ok0, bI_ok1, true_and, if_neg (nI_pos (Nat.lt_trans h hn)), if_pos (nI_lt h hn)]
theorem s11 {i n : Nat} (h : i < n) (hn : n < 2 ^ 31) : CL x 11 [.int (nI i), .int (nI n)] w K = K (.inl (some (.int (nI i)))) w := by
  rw [CL_11]
  simp only [t_11_0, t_11_1, t_11_2, t_11_3, t_11_6, decide_true, decide_false, Bool.not_true, Bool.not_false, Nat.reduceLeDiff, Nat.reduceSub, z0_t, z1_f, z1_t, true_or, or_true,  if_true, if_false, Bool.false_eq_true, aft_v, aft_n, aftN_v, aftN_n, qwV_s, qwV_0, bI_if, bI_ok, bI_ok0, bI_ok1, true_and, s12 h hn]
theorem s8 {a e i n N r : Nat} {m0 : Value} {f : Nat → Option Nat} (hw : w a = some (eO 0 [m0, .ref e, .int (nI n)])) (he : w e = some (eQ x N f)) (hf : f i = some r) (h : i < n) (hn : n ≤ N) (hN : N < 2 ^ 31) : CL x 8 [.ref a, .int (nI i)] w K = K (.inl (some (.ref r))) w := by
  rw [CL_8]
  simp only [t_8_0, t_8_1, t_8_2, t_8_5, t_8_8, t_8_9, t_8_10, t_8_11, t_8_14, CL_7, t_7_0, t_7_1, t_7_4, t_7_5, t_7_6, decide_true, decide_false, Bool.not_true, Bool.not_false, Nat.reduceLeDiff, Nat.reduceSub, z0_t, z1_f, z1_t, true_or, or_true,  if_true, if_false, Bool.false_eq_true, aft_v, aft_n, aftN_v, aftN_n, qwV_s, qwV_0, bI_if, bI_ok, bI_ok0, bI_ok1, true_and, hw, qwO_s, qwK_s, qwV_s, qwV_0, s11 h (Nat.lt_of_le_of_lt hn hN), he, qwQ_s, vp_in_nI (Nat.lt_of_lt_of_le h hn) hN, nI_clamp (Nat.lt_trans (Nat.lt_of_lt_of_le h hn) hN), hf, va_rf]
end
