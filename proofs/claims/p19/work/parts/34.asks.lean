/-! the law's own asking: a refusal is -13 -/
theorem nz1 : (nI 1 = 0) = False := eq_false (by decide)
theorem nz2 : (nI 2 = 0) = False := eq_false (by decide)
theorem nz3 : (nI 3 = 0) = False := eq_false (by decide)
theorem nz4 : (nI 4 = 0) = False := eq_false (by decide)
theorem nz5 : (nI 5 = 0) = False := eq_false (by decide)
theorem n2_1 : (nI 2 = nI 1) = False := eq_false (by decide)
theorem n3_1 : (nI 3 = nI 1) = False := eq_false (by decide)
theorem n4_1 : (nI 4 = nI 1) = False := eq_false (by decide)
theorem n5_1 : (nI 5 = nI 1) = False := eq_false (by decide)
theorem n3_2 : (nI 3 = nI 2) = False := eq_false (by decide)
theorem n4_2 : (nI 4 = nI 2) = False := eq_false (by decide)
theorem n5_2 : (nI 5 = nI 2) = False := eq_false (by decide)
theorem n4_3 : (nI 4 = nI 3) = False := eq_false (by decide)
theorem n5_3 : (nI 5 = nI 3) = False := eq_false (by decide)
theorem n5_4 : (nI 5 = nI 4) = False := eq_false (by decide)
/-- what a refused call comes to -/
def KO (K : Po) : Po := fun r w => match r with
  | .inl (some (.int v)) => K (.inl (some (.int v))) w
  | .inr 3 => K (.inl (some (.int (-13)))) w
  | _ => False
section
variable {x : Cx} {l : Ly} {n : Nn} {c : Cc} {mc ms : Nat} {K : Po}
theorem KO_v {v : Int32} {w : Wd} : KO K (.inl (some (.int v))) w = K (.inl (some (.int v))) w := rfl
theorem KO_3 {w : Wd} : KO K (.inr 3) w = K (.inl (some (.int (-13)))) w := rfl
theorem KO_e {r : Rt} {w : Wd} (h : KO K r w) : (∃ v, r = .inl (some (.int v)) ∧ K (.inl (some (.int v))) w) ∨ (r = .inr 3 ∧ K (.inl (some (.int (-13)))) w) := by
  unfold KO at h
  split at h
  · exact Or.inl ⟨_, rfl, h⟩
  · exact Or.inr ⟨rfl, h⟩
  · exact h.elim
theorem on_ret {L : Lc} {l0 l1 l2 l3 l4 l5 l6 : Option Value} {pc pc' mc' ms' : Nat} (hg : ∀ (v : Int32) (w : Wd) (post : Po), WP x 103 pc' L [.int v] w mc' ms' post = post (.inl (some (.int v))) w) {r : Rt} {w : Wd} (h : KO K r w) : aftF (WP x) 103 pc pc' L [] mc' ms' (aftF (WP x) 104 8 11 [l0, l1, l2, l3, l4, l5, l6] [] mc ms K) r w := by
  rcases KO_e h with ⟨v, rfl, h⟩ | ⟨rfl, h⟩
  · rw [aft_v, hg, aft_v, t_104_11]
    exact h
  · rw [aft_x mH_103]
    have e : (hnd 104 8).lookup 3 = some 12 := by decide +kernel
    simp only [aftF, e]
    intro q
    rw [t_104_12, t_104_14, t_104_16]
    exact h
theorem on_0 (h : Lay x l n) {a b d e : Int32} (hc : CL x 73 [.ref (l.1 0 0), .int a, .int b] (Wo x l n c) (KO K)) : CL x 104 [.ref (l.1 0 0), .int (nI 0), .int a, .int b, .int d, .int e] (Wo x l n c) K := by
  rw [CL_104]
  simp only [t_104_0, t_104_1, t_104_2, t_104_3, t_104_4, t_104_6, t_104_8, decide_true, decide_false, Bool.not_true, Bool.not_false, Nat.reduceLeDiff, Nat.reduceSub, z0_t, z1_f, z1_t, true_or, or_true,  if_true, if_false, Bool.false_eq_true, aft_v, aft_n, aftN_v, aftN_n, qwV_s, qwV_0, bI_if, bI_ok, bI_ok0, bI_ok1, true_and, Nat.le_refl, Nat.sub_self, CL_103, t_103_0, t_103_1, t_103_4, t_103_5, t_103_6, t_103_7, k_0 h, k_1 h, k_2 h, k_4 h, k_5 h, k_7 h]
  exact CL_mono hc (fun r w h => on_ret (fun v w post => by simp only [t_103_10, t_103_13, t_103_14, t_103_15, t_103_18, t_103_19, t_103_20, t_103_23, t_103_26, t_103_27, t_103_28, t_103_31, t_103_32, t_103_33, t_103_34, t_103_36, t_103_38, t_103_41, t_103_44, t_103_45, t_103_46, t_103_49, t_103_50, t_103_51, t_103_52, t_103_55, t_103_58, t_103_59, t_103_60, t_103_63, t_103_64, t_103_65, t_103_66, t_103_69, t_103_72, t_103_73, t_103_74, t_103_75, t_103_77, t_103_79, t_103_82]) h)
theorem on_1 (h : Lay x l n) {a b d e : Int32} (hc : CL x 74 [.ref (l.1 0 0), .int a] (Wo x l n c) (KO K)) : CL x 104 [.ref (l.1 0 0), .int (nI 1), .int a, .int b, .int d, .int e] (Wo x l n c) K := by
  rw [CL_104]
  simp only [t_104_0, t_104_1, t_104_2, t_104_3, t_104_4, t_104_6, t_104_8, decide_true, decide_false, Bool.not_true, Bool.not_false, Nat.reduceLeDiff, Nat.reduceSub, z0_t, z1_f, z1_t, true_or, or_true,  if_true, if_false, Bool.false_eq_true, aft_v, aft_n, aftN_v, aftN_n, qwV_s, qwV_0, bI_if, bI_ok, bI_ok0, bI_ok1, true_and, Nat.le_refl, Nat.sub_self, CL_103, t_103_0, t_103_1, t_103_4, t_103_5, t_103_6, t_103_7, t_103_10, t_103_13, t_103_14, t_103_15, t_103_18, t_103_19, t_103_20, k_0 h, k_1 h, k_2 h, k_4 h, k_5 h, k_7 h]
  exact CL_mono hc (fun r w h => on_ret (fun v w post => by simp only [t_103_23, t_103_26, t_103_27, t_103_28, t_103_31, t_103_32, t_103_33, t_103_34, t_103_36, t_103_38, t_103_41, t_103_44, t_103_45, t_103_46, t_103_49, t_103_50, t_103_51, t_103_52, t_103_55, t_103_58, t_103_59, t_103_60, t_103_63, t_103_64, t_103_65, t_103_66, t_103_69, t_103_72, t_103_73, t_103_74, t_103_75, t_103_77, t_103_79, t_103_82]) h)
theorem on_2 (h : Lay x l n) {a b d e : Int32} (hc : CL x 75 [.ref (l.1 0 0), .int a, .int b, .int d, .int e] (Wo x l n c) (KO K)) : CL x 104 [.ref (l.1 0 0), .int (nI 2), .int a, .int b, .int d, .int e] (Wo x l n c) K := by
  rw [CL_104]
  simp only [t_104_0, t_104_1, t_104_2, t_104_3, t_104_4, t_104_6, t_104_8, decide_true, decide_false, Bool.not_true, Bool.not_false, Nat.reduceLeDiff, Nat.reduceSub, z0_t, z1_f, z1_t, true_or, or_true,  if_true, if_false, Bool.false_eq_true, aft_v, aft_n, aftN_v, aftN_n, qwV_s, qwV_0, bI_if, bI_ok, bI_ok0, bI_ok1, true_and, Nat.le_refl, Nat.sub_self, CL_103, t_103_0, t_103_1, t_103_4, t_103_5, t_103_6, t_103_7, t_103_10, t_103_13, t_103_14, t_103_15, t_103_18, t_103_19, t_103_20, t_103_23, t_103_26, t_103_27, t_103_28, t_103_31, t_103_32, t_103_33, t_103_34, t_103_36, t_103_38, k_0 h, k_1 h, k_2 h, k_4 h, k_5 h, k_7 h, nz2, n2_1]
  exact CL_mono hc (fun r w h => on_ret (fun v w post => by simp only [t_103_41, t_103_44, t_103_45, t_103_46, t_103_49, t_103_50, t_103_51, t_103_52, t_103_55, t_103_58, t_103_59, t_103_60, t_103_63, t_103_64, t_103_65, t_103_66, t_103_69, t_103_72, t_103_73, t_103_74, t_103_75, t_103_77, t_103_79, t_103_82]) h)
theorem on_3 (h : Lay x l n) {a b d e : Int32} (hc : CL x 85 [.ref (l.1 0 0), .int a, .int b] (Wo x l n c) (KO K)) : CL x 104 [.ref (l.1 0 0), .int (nI 3), .int a, .int b, .int d, .int e] (Wo x l n c) K := by
  rw [CL_104]
  simp only [t_104_0, t_104_1, t_104_2, t_104_3, t_104_4, t_104_6, t_104_8, decide_true, decide_false, Bool.not_true, Bool.not_false, Nat.reduceLeDiff, Nat.reduceSub, z0_t, z1_f, z1_t, true_or, or_true,  if_true, if_false, Bool.false_eq_true, aft_v, aft_n, aftN_v, aftN_n, qwV_s, qwV_0, bI_if, bI_ok, bI_ok0, bI_ok1, true_and, Nat.le_refl, Nat.sub_self, CL_103, t_103_0, t_103_1, t_103_4, t_103_5, t_103_6, t_103_7, t_103_10, t_103_13, t_103_14, t_103_15, t_103_18, t_103_19, t_103_20, t_103_23, t_103_26, t_103_27, t_103_28, t_103_31, t_103_32, t_103_33, t_103_34, t_103_36, t_103_38, t_103_41, t_103_44, t_103_45, t_103_46, t_103_49, t_103_50, t_103_51, t_103_52, k_0 h, k_1 h, k_2 h, k_4 h, k_5 h, k_7 h, nz3, n3_1, n3_2]
  exact CL_mono hc (fun r w h => on_ret (fun v w post => by simp only [t_103_55, t_103_58, t_103_59, t_103_60, t_103_63, t_103_64, t_103_65, t_103_66, t_103_69, t_103_72, t_103_73, t_103_74, t_103_75, t_103_77, t_103_79, t_103_82]) h)
theorem on_4 (h : Lay x l n) {a b d e : Int32} (hc : CL x 86 [.ref (l.1 0 0), .int a, .int b] (Wo x l n c) (KO K)) : CL x 104 [.ref (l.1 0 0), .int (nI 4), .int a, .int b, .int d, .int e] (Wo x l n c) K := by
  rw [CL_104]
  simp only [t_104_0, t_104_1, t_104_2, t_104_3, t_104_4, t_104_6, t_104_8, decide_true, decide_false, Bool.not_true, Bool.not_false, Nat.reduceLeDiff, Nat.reduceSub, z0_t, z1_f, z1_t, true_or, or_true,  if_true, if_false, Bool.false_eq_true, aft_v, aft_n, aftN_v, aftN_n, qwV_s, qwV_0, bI_if, bI_ok, bI_ok0, bI_ok1, true_and, Nat.le_refl, Nat.sub_self, CL_103, t_103_0, t_103_1, t_103_4, t_103_5, t_103_6, t_103_7, t_103_10, t_103_13, t_103_14, t_103_15, t_103_18, t_103_19, t_103_20, t_103_23, t_103_26, t_103_27, t_103_28, t_103_31, t_103_32, t_103_33, t_103_34, t_103_36, t_103_38, t_103_41, t_103_44, t_103_45, t_103_46, t_103_49, t_103_50, t_103_51, t_103_52, t_103_55, t_103_58, t_103_59, t_103_60, t_103_63, t_103_64, t_103_65, t_103_66, k_0 h, k_1 h, k_2 h, k_4 h, k_5 h, k_7 h, nz4, n4_1, n4_2, n4_3]
  exact CL_mono hc (fun r w h => on_ret (fun v w post => by simp only [t_103_69, t_103_72, t_103_73, t_103_74, t_103_75, t_103_77, t_103_79, t_103_82]) h)
theorem on_5 (h : Lay x l n) {a b d e : Int32} (hc : CL x 76 [.ref (l.1 0 0), .int a, .int b, .int d, .int e] (Wo x l n c) (KO K)) : CL x 104 [.ref (l.1 0 0), .int (nI 5), .int a, .int b, .int d, .int e] (Wo x l n c) K := by
  rw [CL_104]
  simp only [t_104_0, t_104_1, t_104_2, t_104_3, t_104_4, t_104_6, t_104_8, decide_true, decide_false, Bool.not_true, Bool.not_false, Nat.reduceLeDiff, Nat.reduceSub, z0_t, z1_f, z1_t, true_or, or_true,  if_true, if_false, Bool.false_eq_true, aft_v, aft_n, aftN_v, aftN_n, qwV_s, qwV_0, bI_if, bI_ok, bI_ok0, bI_ok1, true_and, Nat.le_refl, Nat.sub_self, CL_103, t_103_0, t_103_1, t_103_4, t_103_5, t_103_6, t_103_7, t_103_10, t_103_13, t_103_14, t_103_15, t_103_18, t_103_19, t_103_20, t_103_23, t_103_26, t_103_27, t_103_28, t_103_31, t_103_32, t_103_33, t_103_34, t_103_36, t_103_38, t_103_41, t_103_44, t_103_45, t_103_46, t_103_49, t_103_50, t_103_51, t_103_52, t_103_55, t_103_58, t_103_59, t_103_60, t_103_63, t_103_64, t_103_65, t_103_66, t_103_69, t_103_72, t_103_73, t_103_74, t_103_75, t_103_77, t_103_79, k_0 h, k_1 h, k_2 h, k_4 h, k_5 h, k_7 h, nz5, n5_1, n5_2, n5_3, n5_4]
  exact CL_mono hc (fun r w h => on_ret (fun v w post => by simp only [t_103_82]) h)
end
