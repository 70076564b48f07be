theorem CI_i {n : Nn} {A S A' S' : Fn2} (h : CI n A S) (hA : A' = A) (hS : ∀ s, S' s 0 = S s 0 ∧ S' s 7 = S s 7) : CI n A' S' := by
  subst hA
  obtain ⟨h1, h2, h3, h4, h5, h6, h7⟩ := h
  refine ⟨h1, h2, h3, h4, h5, h6, fun s hs => ?_⟩
  have e : scO S' s = scO S s := by unfold scO; rw [(hS s).1]
  rw [e, (hS s).1, (hS s).2]
  exact h7 s hs
theorem isc_t {v : Int32} (h : isc v = true) : ∃ j, j < 4 ∧ v = nI j := inN_t (N := 4) (by decide) h
def soldC (c : Cc) (j : Nat) (m : Int32) : Cc := cu c 13 j (upd (c 13 j) 8 (c 13 j 8 - m))
def copC (n : Nn) (c : Cc) (j : Nat) (m : Int32) : Int32 := if errC n c j ≤ 0 then c 13 j 8 + m else m
def shfC (c : Cc) (j : Nat) (a b : Int32) : Cc := cu c 12 j (upd (upd (c 12 j) 2 a) 3 b)
def genC (n : Nn) (c : Cc) : Cc := cw c 11 (genR (c 9) (c 10) n.1 (c 11) n.1)
def movC (n : Nn) (c : Cc) (j p : Nat) (v : Int32) : Cc := genC n (cu c 10 j (upd (c 10 j) p v))
def drfC (n : Nn) (c : Cc) (v : Int32) : Cc := cu (cu c 10 n.1 (upd (c 10 n.1) (szO (c 9) n.1) v)) 9 n.1 (upd (c 9 n.1) 2 (nI (szO (c 9) n.1 + 1)))
abbrev plV (a b : Int32) : Int32 := b * nI 40 + a
abbrev inP (a b : Int32) : Bool := inR (nI 0) a (nI 39) && inR (nI 0) b (nI 39)
theorem szO_nI {A : Fn2} {r z : Nat} (h : A r 2 = nI z) (hz : z < 2 ^ 31) : szO A r = z := by
  unfold szO
  rw [h, nI_clamp hz]
section
variable {x : Cx} {l : Ly} {n : Nn} {c : Cc} {mc ms : Nat} {w : Wd} {K post : Po}
theorem s88 (h : Lay x l n) (hI : CI n (c 9) (c 13)) {v : Int32} : CL x 88 [.ref (l.1 0 0), .int v] (Wo x l n c) K = if inN n.2.2.1 v = true then K (.inl (some (.int (errC n c v.toNatClampNeg)))) (Wo x l n (drw n c v.toNatClampNeg)) else K (.inr 1) (Wo x l n c) := by
  have hN := hI.2.2.1
  rw [CL_88]
  by_cases q : inN n.2.2.1 v = true
  · have q' := q
    obtain ⟨j, hj, rfl⟩ := inN_t (by omega) q
    rw [if_pos q]
    rw [nI_clamp (by omega)]
    simp only [t_88_0, t_88_1, t_88_2, t_88_3, t_88_6, t_88_9, decide_true, decide_false, Bool.not_true, Bool.not_false, Nat.reduceLeDiff, Nat.reduceSub, z0_t, z1_f, z1_t, true_or, or_true,  if_true, if_false, Bool.false_eq_true, aft_v, aft_n, aftN_v, aftN_n, qwV_s, qwV_0, bI_if, bI_ok, bI_ok0, bI_ok1, true_and, k_0 h, k_1 h, k_2 h, k_4 h, k_5 h, k_7 h, s94 h hN, if_pos q', nI_clamp (show j < 2 ^ 31 by omega), s90 h hI hj]
  · rw [if_neg q]
    simp only [t_88_0, t_88_1, t_88_2, t_88_3, t_88_6, t_88_9, decide_true, decide_false, Bool.not_true, Bool.not_false, Nat.reduceLeDiff, Nat.reduceSub, z0_t, z1_f, z1_t, true_or, or_true,  if_true, if_false, Bool.false_eq_true, aft_v, aft_n, aftN_v, aftN_n, qwV_s, qwV_0, bI_if, bI_ok, bI_ok0, bI_ok1, true_and, k_0 h, k_1 h, k_2 h, k_4 h, k_5 h, k_7 h, s94 h hN, if_neg q, aft_x mH_88]
theorem s87 (h : Lay x l n) (hI : CI n (c 9) (c 13)) {v : Int32} : CL x 87 [.ref (l.1 0 0), .int v] (Wo x l n c) K = if inN n.2.2.1 v = true then K (.inl (some (.int (c 13 v.toNatClampNeg 8)))) (Wo x l n c) else K (.inr 1) (Wo x l n c) := by
  have hN := hI.2.2.1
  rw [CL_87]
  by_cases q : inN n.2.2.1 v = true
  · have q' := q
    obtain ⟨j, hj, rfl⟩ := inN_t (by omega) q
    rw [if_pos q]
    rw [nI_clamp (by omega)]
    simp only [t_87_0, t_87_1, t_87_2, t_87_5, t_87_8, decide_true, decide_false, Bool.not_true, Bool.not_false, Nat.reduceLeDiff, Nat.reduceSub, z0_t, z1_f, z1_t, true_or, or_true,  if_true, if_false, Bool.false_eq_true, aft_v, aft_n, aftN_v, aftN_n, qwV_s, qwV_0, bI_if, bI_ok, bI_ok0, bI_ok1, true_and, k_0 h, k_1 h, k_2 h, k_4 h, k_5 h, k_7 h, s94 h hN, if_pos q', nI_clamp (show j < 2 ^ 31 by omega), k_13 h hj, s33 h hj]
  · rw [if_neg q]
    simp only [t_87_0, t_87_1, t_87_2, t_87_5, t_87_8, decide_true, decide_false, Bool.not_true, Bool.not_false, Nat.reduceLeDiff, Nat.reduceSub, z0_t, z1_f, z1_t, true_or, or_true,  if_true, if_false, Bool.false_eq_true, aft_v, aft_n, aftN_v, aftN_n, qwV_s, qwV_0, bI_if, bI_ok, bI_ok0, bI_ok1, true_and, k_0 h, k_1 h, k_2 h, k_4 h, k_5 h, k_7 h, s94 h hN, if_neg q, aft_x mH_87]
theorem s86 (h : Lay x l n) (hI : CI n (c 9) (c 13)) {v m : Int32} : CL x 86 [.ref (l.1 0 0), .int v, .int m] (Wo x l n c) K = if inN n.2.2.1 v = true then (if inR (nI 1) m (nI 1000) = true then (if c 13 v.toNatClampNeg 8 < m then K (.inr 3) (Wo x l n c) else K (.inl (some (.int (errC n (soldC c v.toNatClampNeg m) v.toNatClampNeg)))) (Wo x l n (drw n (soldC c v.toNatClampNeg m) v.toNatClampNeg))) else K (.inr 2) (Wo x l n c)) else K (.inr 1) (Wo x l n c) := by
  have hN := hI.2.2.1
  rw [CL_86]
  by_cases q : inN n.2.2.1 v = true
  · have q' := q
    obtain ⟨j, hj, rfl⟩ := inN_t (by omega) q
    rw [if_pos q]
    rw [nI_clamp (by omega)]
    have hI' : CI n (soldC c j m 9) (soldC c j m 13) := by
      refine CI_i hI (by funext i; exact cu_k (by decide)) (fun s => ?_)
      unfold soldC cu
      by_cases e : s = j
      · simp [e, upd_n]
      · simp [e]
    have s90' := fun K => s90 (x := x) (c := soldC c j m) (K := K) h hI' hj
    unfold soldC at s90' ⊢
    cases q2 : inR (nI 1) m (nI 1000)
    · simp only [t_86_0, t_86_1, t_86_2, t_86_5, t_86_6, t_86_7, t_86_8, t_86_11, t_86_14, t_86_15, t_86_18, t_86_19, t_86_22, t_86_32, t_86_33, t_86_34, t_86_37, t_86_38, t_86_39, t_86_42, decide_true, decide_false, Bool.not_true, Bool.not_false, Nat.reduceLeDiff, Nat.reduceSub, z0_t, z1_f, z1_t, true_or, or_true,  if_true, if_false, Bool.false_eq_true, aft_v, aft_n, aftN_v, aftN_n, qwV_s, qwV_0, bI_if, bI_ok, bI_ok0, bI_ok1, true_and, k_0 h, k_1 h, k_2 h, k_4 h, k_5 h, k_7 h, s94 h hN, if_pos q', nI_clamp (show j < 2 ^ 31 by omega), Nat.reduceLeDiff, s98, q2, aft_x mH_86]
    · simp only [t_86_0, t_86_1, t_86_2, t_86_5, t_86_6, t_86_7, t_86_8, t_86_11, t_86_14, t_86_15, t_86_18, t_86_19, t_86_22, t_86_32, t_86_33, t_86_34, t_86_37, t_86_38, t_86_39, t_86_42, decide_true, decide_false, Bool.not_true, Bool.not_false, Nat.reduceLeDiff, Nat.reduceSub, z0_t, z1_f, z1_t, true_or, or_true,  if_true, if_false, Bool.false_eq_true, aft_v, aft_n, aftN_v, aftN_n, qwV_s, qwV_0, bI_if, bI_ok, bI_ok0, bI_ok1, true_and, k_0 h, k_1 h, k_2 h, k_4 h, k_5 h, k_7 h, s94 h hN, if_pos q', nI_clamp (show j < 2 ^ 31 by omega), Nat.reduceLeDiff, Nat.reduceSub, s98, q2, k_13 h hj, s33 h hj, s38 h hj, s90']
      by_cases q3 : c 13 j 8 < m
      · rw [if_pos q3, if_neg (Int32.not_le.mpr q3)]
      · rw [if_neg q3, if_pos (Int32.not_lt.mp q3)]
  · rw [if_neg q]
    simp only [t_86_0, t_86_1, t_86_2, t_86_5, t_86_6, t_86_7, t_86_8, t_86_11, t_86_14, t_86_15, t_86_18, t_86_19, t_86_22, t_86_32, t_86_33, t_86_34, t_86_37, t_86_38, t_86_39, t_86_42, decide_true, decide_false, Bool.not_true, Bool.not_false, Nat.reduceLeDiff, Nat.reduceSub, z0_t, z1_f, z1_t, true_or, or_true,  if_true, if_false, Bool.false_eq_true, aft_v, aft_n, aftN_v, aftN_n, qwV_s, qwV_0, bI_if, bI_ok, bI_ok0, bI_ok1, true_and, k_0 h, k_1 h, k_2 h, k_4 h, k_5 h, k_7 h, s94 h hN, if_neg q, aft_x mH_86, Nat.reduceLeDiff]
theorem s85 (h : Lay x l n) (hI : CI n (c 9) (c 13)) {v m : Int32} : CL x 85 [.ref (l.1 0 0), .int v, .int m] (Wo x l n c) K = if inN n.2.2.1 v = true then (if inR (nI 1) m (nI 100) = true then (if copC n c v.toNatClampNeg m ≤ nI 1000 then K (.inl (some (.int (copC n c v.toNatClampNeg m)))) (Wo x l n (keepC (drw n c v.toNatClampNeg) v.toNatClampNeg (copC n c v.toNatClampNeg m))) else K (.inr 3) (Wo x l n (drw n c v.toNatClampNeg))) else K (.inr 2) (Wo x l n c)) else K (.inr 1) (Wo x l n c) := by
  have hN := hI.2.2.1
  rw [CL_85]
  by_cases q : inN n.2.2.1 v = true
  · have q' := q
    obtain ⟨j, hj, rfl⟩ := inN_t (by omega) q
    rw [if_pos q]
    rw [nI_clamp (by omega)]
    have e13 : drw n c j 13 = c 13 := drw_n (by decide) (by decide) (by decide)
    unfold copC
    cases q2 : inR (nI 1) m (nI 100)
    · simp only [t_85_0, t_85_1, t_85_2, t_85_5, t_85_6, t_85_7, t_85_8, t_85_10, t_85_13, t_85_14, t_85_15, t_85_18, t_85_19, t_85_20, t_85_23, t_85_26, t_85_29, t_85_30, t_85_33, t_85_34, t_85_37, t_85_38, t_85_39, t_85_41, t_85_43, t_85_46, t_85_49, t_85_59, t_85_60, t_85_61, t_85_64, t_85_66, t_85_69, t_85_71, decide_true, decide_false, Bool.not_true, Bool.not_false, Nat.reduceLeDiff, Nat.reduceSub, z0_t, z1_f, z1_t, true_or, or_true,  if_true, if_false, Bool.false_eq_true, aft_v, aft_n, aftN_v, aftN_n, qwV_s, qwV_0, bI_if, bI_ok, bI_ok0, bI_ok1, true_and, k_0 h, k_1 h, k_2 h, k_4 h, k_5 h, k_7 h, s94 h hN, if_pos q', nI_clamp (show j < 2 ^ 31 by omega), Nat.reduceLeDiff, s98, q2, aft_x mH_85]
    · simp only [t_85_0, t_85_1, t_85_2, t_85_5, t_85_6, t_85_7, t_85_8, t_85_10, t_85_13, t_85_14, t_85_15, t_85_18, t_85_19, t_85_20, t_85_23, t_85_26, t_85_29, t_85_30, t_85_33, t_85_34, t_85_37, t_85_38, t_85_39, t_85_41, t_85_43, t_85_46, t_85_49, t_85_59, t_85_60, t_85_61, t_85_64, t_85_66, t_85_69, t_85_71, decide_true, decide_false, Bool.not_true, Bool.not_false, Nat.reduceLeDiff, Nat.reduceSub, z0_t, z1_f, z1_t, true_or, or_true,  if_true, if_false, Bool.false_eq_true, aft_v, aft_n, aftN_v, aftN_n, qwV_s, qwV_0, bI_if, bI_ok, bI_ok0, bI_ok1, true_and, k_0 h, k_1 h, k_2 h, k_4 h, k_5 h, k_7 h, s94 h hN, if_pos q', nI_clamp (show j < 2 ^ 31 by omega), Nat.reduceLeDiff, Nat.reduceSub, s98, q2, k_13 h hj, s91 h hI hj, f_0_3 h, s36' h hI hj, s33 h hj, e13, s37 h hj]
      by_cases q3 : errC n c j ≤ 0 <;> simp only [q3, if_true, if_false]
  · rw [if_neg q]
    simp only [t_85_0, t_85_1, t_85_2, t_85_5, t_85_6, t_85_7, t_85_8, t_85_10, t_85_13, t_85_14, t_85_15, t_85_18, t_85_19, t_85_20, t_85_23, t_85_26, t_85_29, t_85_30, t_85_33, t_85_34, t_85_37, t_85_38, t_85_39, t_85_41, t_85_43, t_85_46, t_85_49, t_85_59, t_85_60, t_85_61, t_85_64, t_85_66, t_85_69, t_85_71, decide_true, decide_false, Bool.not_true, Bool.not_false, Nat.reduceLeDiff, Nat.reduceSub, z0_t, z1_f, z1_t, true_or, or_true,  if_true, if_false, Bool.false_eq_true, aft_v, aft_n, aftN_v, aftN_n, qwV_s, qwV_0, bI_if, bI_ok, bI_ok0, bI_ok1, true_and, k_0 h, k_1 h, k_2 h, k_4 h, k_5 h, k_7 h, s94 h hN, if_neg q, aft_x mH_85, Nat.reduceLeDiff]
theorem s84 (h : Lay x l n) (hI : CI n (c 9) (c 13)) {v a b : Int32} : CL x 84 [.ref (l.1 0 0), .int v, .int a, .int b] (Wo x l n c) K = if inN n.2.2.1 v = true then (if inP a b = true then K (.inl (some (.int (ltF (tkB (lbls n c v.toNatClampNeg).1 (c 12) (plV a b) (nI 1)) n.2.1 0)))) (Wo x l n (cL c 0 (lbls n c v.toNatClampNeg))) else K (.inr 2) (Wo x l n c)) else K (.inr 1) (Wo x l n c) := by
  have hN := hI.2.2.1
  have hN2 := hI.2.1
  rw [CL_84]
  by_cases q : inN n.2.2.1 v = true
  · have q' := q
    obtain ⟨j, hj, rfl⟩ := inN_t (by omega) q
    rw [if_pos q]
    rw [nI_clamp (by omega)]
    obtain ⟨a1, a2, a3⟩ := hI.2.2.2.2.2.2 j hj
    cases q2 : inP a b
    · simp only [t_84_0, t_84_1, t_84_2, t_84_5, t_84_7, t_84_8, t_84_9, t_84_12, t_84_13, t_84_16, t_84_18, t_84_19, t_84_22, t_84_25, t_84_26, t_84_29, t_84_30, t_84_31, t_84_34, t_84_35, t_84_36, t_84_39, t_84_42, decide_true, decide_false, Bool.not_true, Bool.not_false, Nat.reduceLeDiff, Nat.reduceSub, z0_t, z1_f, z1_t, true_or, or_true,  if_true, if_false, Bool.false_eq_true, aft_v, aft_n, aftN_v, aftN_n, qwV_s, qwV_0, bI_if, bI_ok, bI_ok0, bI_ok1, true_and, k_0 h, k_1 h, k_2 h, k_4 h, k_5 h, k_7 h, s94 h hN, if_pos q', nI_clamp (show j < 2 ^ 31 by omega), Nat.reduceLeDiff, s96, q2, aft_x mH_84]
    · simp only [t_84_0, t_84_1, t_84_2, t_84_5, t_84_7, t_84_8, t_84_9, t_84_12, t_84_13, t_84_16, t_84_18, t_84_19, t_84_22, t_84_25, t_84_26, t_84_29, t_84_30, t_84_31, t_84_34, t_84_35, t_84_36, t_84_39, t_84_42, decide_true, decide_false, Bool.not_true, Bool.not_false, Nat.reduceLeDiff, Nat.reduceSub, z0_t, z1_f, z1_t, true_or, or_true,  if_true, if_false, Bool.false_eq_true, aft_v, aft_n, aftN_v, aftN_n, qwV_s, qwV_0, bI_if, bI_ok, bI_ok0, bI_ok1, true_and, k_0 h, k_1 h, k_2 h, k_4 h, k_5 h, k_7 h, s94 h hN, if_pos q', nI_clamp (show j < 2 ^ 31 by omega), Nat.reduceLeDiff, Nat.reduceSub, s96, q2, f_0_1 h, f_0_3 h, s56 h hN2 hj (show 0 < n.2.2.1 + 1 by omega) a2 a1, s99, s58 h hN2 (show 0 < n.2.2.1 + 1 by omega), cL_1, cL_n (show 12 ≠ 15 by decide) (show 12 ≠ 16 by decide)]
      rfl
  · rw [if_neg q]
    simp only [t_84_0, t_84_1, t_84_2, t_84_5, t_84_7, t_84_8, t_84_9, t_84_12, t_84_13, t_84_16, t_84_18, t_84_19, t_84_22, t_84_25, t_84_26, t_84_29, t_84_30, t_84_31, t_84_34, t_84_35, t_84_36, t_84_39, t_84_42, decide_true, decide_false, Bool.not_true, Bool.not_false, Nat.reduceLeDiff, Nat.reduceSub, z0_t, z1_f, z1_t, true_or, or_true,  if_true, if_false, Bool.false_eq_true, aft_v, aft_n, aftN_v, aftN_n, qwV_s, qwV_0, bI_if, bI_ok, bI_ok0, bI_ok1, true_and, k_0 h, k_1 h, k_2 h, k_4 h, k_5 h, k_7 h, s94 h hN, if_neg q, aft_x mH_84, Nat.reduceLeDiff]
theorem s83 (h : Lay x l n) (hI : CI n (c 9) (c 13)) {v m : Int32} : CL x 83 [.ref (l.1 0 0), .int v, .int m] (Wo x l n c) K = if inN n.2.2.1 v = true then (if inN n.2.1 m = true then K (.inl (some (.int ((lbls n c v.toNatClampNeg).2 m.toNatClampNeg)))) (Wo x l n (cL c 0 (lbls n c v.toNatClampNeg))) else K (.inr 1) (Wo x l n c)) else K (.inr 1) (Wo x l n c) := by
  have hN := hI.2.2.1
  have hN2 := hI.2.1
  rw [CL_83]
  by_cases q : inN n.2.2.1 v = true
  · have q' := q
    obtain ⟨j, hj, rfl⟩ := inN_t (by omega) q
    rw [if_pos q]
    rw [nI_clamp (by omega)]
    obtain ⟨a1, a2, a3⟩ := hI.2.2.2.2.2.2 j hj
    by_cases q2 : inN n.2.1 m = true
    · have q2' := q2
      obtain ⟨k, hk, rfl⟩ := inN_t (by omega) q2
      rw [if_pos q2]
      rw [nI_clamp (by omega)]
      simp only [t_83_0, t_83_1, t_83_2, t_83_5, t_83_6, t_83_7, t_83_8, t_83_11, t_83_12, t_83_13, t_83_16, t_83_17, t_83_18, t_83_21, t_83_24, t_83_25, t_83_28, t_83_29, t_83_32, decide_true, decide_false, Bool.not_true, Bool.not_false, Nat.reduceLeDiff, Nat.reduceSub, z0_t, z1_f, z1_t, true_or, or_true,  if_true, if_false, Bool.false_eq_true, aft_v, aft_n, aftN_v, aftN_n, qwV_s, qwV_0, bI_if, bI_ok, bI_ok0, bI_ok1, true_and, k_0 h, k_1 h, k_2 h, k_4 h, k_5 h, k_7 h, s94 h hN, if_pos q', nI_clamp (show j < 2 ^ 31 by omega), Nat.reduceLeDiff, Nat.reduceSub, s93 h hN2, if_pos q2', f_0_1 h, f_0_3 h, k_14 h (show 0 < n.2.2.1 + 1 by omega), s56 h hN2 hj (show 0 < n.2.2.1 + 1 by omega) a2 a1, s25 h (show 0 < n.2.2.1 + 1 by omega), cL_2, rdA_in (show k < 10 by omega) (show 10 < 2 ^ 31 by decide)]
      rfl
    · rw [if_neg q2]
      simp only [t_83_0, t_83_1, t_83_2, t_83_5, t_83_6, t_83_7, t_83_8, t_83_11, t_83_12, t_83_13, t_83_16, t_83_17, t_83_18, t_83_21, t_83_24, t_83_25, t_83_28, t_83_29, t_83_32, decide_true, decide_false, Bool.not_true, Bool.not_false, Nat.reduceLeDiff, Nat.reduceSub, z0_t, z1_f, z1_t, true_or, or_true,  if_true, if_false, Bool.false_eq_true, aft_v, aft_n, aftN_v, aftN_n, qwV_s, qwV_0, bI_if, bI_ok, bI_ok0, bI_ok1, true_and, k_0 h, k_1 h, k_2 h, k_4 h, k_5 h, k_7 h, s94 h hN, if_pos q', Nat.reduceLeDiff, Nat.reduceSub, s93 h hN2, if_neg q2, aft_x mH_83]
  · rw [if_neg q]
    simp only [t_83_0, t_83_1, t_83_2, t_83_5, t_83_6, t_83_7, t_83_8, t_83_11, t_83_12, t_83_13, t_83_16, t_83_17, t_83_18, t_83_21, t_83_24, t_83_25, t_83_28, t_83_29, t_83_32, decide_true, decide_false, Bool.not_true, Bool.not_false, Nat.reduceLeDiff, Nat.reduceSub, z0_t, z1_f, z1_t, true_or, or_true,  if_true, if_false, Bool.false_eq_true, aft_v, aft_n, aftN_v, aftN_n, qwV_s, qwV_0, bI_if, bI_ok, bI_ok0, bI_ok1, true_and, k_0 h, k_1 h, k_2 h, k_4 h, k_5 h, k_7 h, s94 h hN, if_neg q, aft_x mH_83, Nat.reduceLeDiff]
theorem s81 (h : Lay x l n) (hI : CI n (c 9) (c 13)) {s : Int32} : CL x 81 [.ref (l.1 0 0), .int s] (Wo x l n c) K = if isc s = true then K (.inl (some (.int (mtA (c 9) (c 10) n.1 s)))) (Wo x l n c) else K (.inr 1) (Wo x l n c) := by
  rw [CL_81]
  cases q : isc s
  · simp only [t_81_0, t_81_1, t_81_4, t_81_5, t_81_8, t_81_9, t_81_12, decide_true, decide_false, Bool.not_true, Bool.not_false, Nat.reduceLeDiff, Nat.reduceSub, z0_t, z1_f, z1_t, true_or, or_true,  if_true, if_false, Bool.false_eq_true, aft_v, aft_n, aftN_v, aftN_n, qwV_s, qwV_0, bI_if, bI_ok, bI_ok0, bI_ok1, true_and, k_0 h, k_1 h, k_2 h, k_4 h, k_5 h, k_7 h, Nat.reduceLeDiff, s95, q, aft_x mH_81]
  · simp only [t_81_0, t_81_1, t_81_4, t_81_5, t_81_8, t_81_9, t_81_12, decide_true, decide_false, Bool.not_true, Bool.not_false, Nat.reduceLeDiff, Nat.reduceSub, z0_t, z1_f, z1_t, true_or, or_true,  if_true, if_false, Bool.false_eq_true, aft_v, aft_n, aftN_v, aftN_n, qwV_s, qwV_0, bI_if, bI_ok, bI_ok0, bI_ok1, true_and, k_0 h, k_1 h, k_2 h, k_4 h, k_5 h, k_7 h, Nat.reduceLeDiff, s95, q, f_0_0 h, s68 h hI.1 hI.2.2.2.2.1]
theorem s80 (h : Lay x l n) (hI : CI n (c 9) (c 13)) {s : Int32} : CL x 80 [.ref (l.1 0 0), .int s] (Wo x l n c) K = if isc s = true then K (.inl (some (.int (mtL (c 9) (c 10) (c 11) n.1 s)))) (Wo x l n c) else K (.inr 1) (Wo x l n c) := by
  rw [CL_80]
  cases q : isc s
  · simp only [t_80_0, t_80_1, t_80_4, t_80_5, t_80_8, t_80_9, t_80_12, decide_true, decide_false, Bool.not_true, Bool.not_false, Nat.reduceLeDiff, Nat.reduceSub, z0_t, z1_f, z1_t, true_or, or_true,  if_true, if_false, Bool.false_eq_true, aft_v, aft_n, aftN_v, aftN_n, qwV_s, qwV_0, bI_if, bI_ok, bI_ok0, bI_ok1, true_and, k_0 h, k_1 h, k_2 h, k_4 h, k_5 h, k_7 h, Nat.reduceLeDiff, s95, q, aft_x mH_80]
  · simp only [t_80_0, t_80_1, t_80_4, t_80_5, t_80_8, t_80_9, t_80_12, decide_true, decide_false, Bool.not_true, Bool.not_false, Nat.reduceLeDiff, Nat.reduceSub, z0_t, z1_f, z1_t, true_or, or_true,  if_true, if_false, Bool.false_eq_true, aft_v, aft_n, aftN_v, aftN_n, qwV_s, qwV_0, bI_if, bI_ok, bI_ok0, bI_ok1, true_and, k_0 h, k_1 h, k_2 h, k_4 h, k_5 h, k_7 h, Nat.reduceLeDiff, s95, q, f_0_0 h, s67 h hI.1 hI.2.2.2.2.1]
theorem s79 (h : Lay x l n) (hI : CI n (c 9) (c 13)) {v s : Int32} : CL x 79 [.ref (l.1 0 0), .int v, .int s] (Wo x l n c) K = if (inN n.1 v && isc s) = true then K (.inl (some (.int (rdA 4 (c 11 v.toNatClampNeg) (nI 0) s)))) (Wo x l n c) else K (.inr 1) (Wo x l n c) := by
  have hN := hI.1
  rw [CL_79]
  by_cases q : inN n.1 v = true
  · have q' := q
    obtain ⟨j, hj, rfl⟩ := inN_t (by omega) q
    rw [q, Bool.true_and, nI_clamp (by omega)]
    cases q2 : isc s
    · simp only [t_79_0, t_79_1, t_79_2, t_79_5, t_79_6, t_79_7, t_79_10, t_79_11, t_79_12, t_79_15, decide_true, decide_false, Bool.not_true, Bool.not_false, Nat.reduceLeDiff, Nat.reduceSub, z0_t, z1_f, z1_t, true_or, or_true,  if_true, if_false, Bool.false_eq_true, aft_v, aft_n, aftN_v, aftN_n, qwV_s, qwV_0, bI_if, bI_ok, bI_ok0, bI_ok1, true_and, k_0 h, k_1 h, k_2 h, k_4 h, k_5 h, k_7 h, s92 h hN, if_pos q', Nat.reduceLeDiff, s95, q2, aft_x mH_79]
    · simp only [t_79_0, t_79_1, t_79_2, t_79_5, t_79_6, t_79_7, t_79_10, t_79_11, t_79_12, t_79_15, decide_true, decide_false, Bool.not_true, Bool.not_false, Nat.reduceLeDiff, Nat.reduceSub, z0_t, z1_f, z1_t, true_or, or_true,  if_true, if_false, Bool.false_eq_true, aft_v, aft_n, aftN_v, aftN_n, qwV_s, qwV_0, bI_if, bI_ok, bI_ok0, bI_ok1, true_and, k_0 h, k_1 h, k_2 h, k_4 h, k_5 h, k_7 h, s92 h hN, if_pos q', nI_clamp (show j < 2 ^ 31 by omega), Nat.reduceLeDiff, Nat.reduceSub, s95, q2, k_9 h (show j < n.2.2.2 by omega), s47 h (show j < n.2.2.2 by omega)]
  · have q3 : inN n.1 v = false := by cases e : inN n.1 v <;> simp_all
    simp only [t_79_0, t_79_1, t_79_2, t_79_5, t_79_6, t_79_7, t_79_10, t_79_11, t_79_12, t_79_15, decide_true, decide_false, Bool.not_true, Bool.not_false, Nat.reduceLeDiff, Nat.reduceSub, z0_t, z1_f, z1_t, true_or, or_true,  if_true, if_false, Bool.false_eq_true, aft_v, aft_n, aftN_v, aftN_n, qwV_s, qwV_0, bI_if, bI_ok, bI_ok0, bI_ok1, true_and, k_0 h, k_1 h, k_2 h, k_4 h, k_5 h, k_7 h, s92 h hN, if_neg q, q3, Bool.false_and, aft_x mH_79, Nat.reduceLeDiff]
theorem s78 (h : Lay x l n) (hI : CI n (c 9) (c 13)) {v s : Int32} : CL x 78 [.ref (l.1 0 0), .int v, .int s] (Wo x l n c) K = if (inN n.1 v && isc s) = true then K (.inl (some (.int (bcI (rdA 4 (c 11 v.toNatClampNeg) (nI 0) s))))) (Wo x l n c) else K (.inr 1) (Wo x l n c) := by
  have hN := hI.1
  rw [CL_78]
  by_cases q : inN n.1 v = true
  · have q' := q
    obtain ⟨j, hj, rfl⟩ := inN_t (by omega) q
    rw [q, Bool.true_and, nI_clamp (by omega)]
    cases q2 : isc s
    · simp only [t_78_0, t_78_1, t_78_2, t_78_5, t_78_6, t_78_7, t_78_10, t_78_11, t_78_12, t_78_15, t_78_18, decide_true, decide_false, Bool.not_true, Bool.not_false, Nat.reduceLeDiff, Nat.reduceSub, z0_t, z1_f, z1_t, true_or, or_true,  if_true, if_false, Bool.false_eq_true, aft_v, aft_n, aftN_v, aftN_n, qwV_s, qwV_0, bI_if, bI_ok, bI_ok0, bI_ok1, true_and, k_0 h, k_1 h, k_2 h, k_4 h, k_5 h, k_7 h, s92 h hN, if_pos q', Nat.reduceLeDiff, s95, q2, aft_x mH_78]
    · simp only [t_78_0, t_78_1, t_78_2, t_78_5, t_78_6, t_78_7, t_78_10, t_78_11, t_78_12, t_78_15, t_78_18, decide_true, decide_false, Bool.not_true, Bool.not_false, Nat.reduceLeDiff, Nat.reduceSub, z0_t, z1_f, z1_t, true_or, or_true,  if_true, if_false, Bool.false_eq_true, aft_v, aft_n, aftN_v, aftN_n, qwV_s, qwV_0, bI_if, bI_ok, bI_ok0, bI_ok1, true_and, k_0 h, k_1 h, k_2 h, k_4 h, k_5 h, k_7 h, s92 h hN, if_pos q', nI_clamp (show j < 2 ^ 31 by omega), Nat.reduceLeDiff, Nat.reduceSub, s95, q2, k_9 h (show j < n.2.2.2 by omega), s47 h (show j < n.2.2.2 by omega), s0]
  · have q3 : inN n.1 v = false := by cases e : inN n.1 v <;> simp_all
    simp only [t_78_0, t_78_1, t_78_2, t_78_5, t_78_6, t_78_7, t_78_10, t_78_11, t_78_12, t_78_15, t_78_18, decide_true, decide_false, Bool.not_true, Bool.not_false, Nat.reduceLeDiff, Nat.reduceSub, z0_t, z1_f, z1_t, true_or, or_true,  if_true, if_false, Bool.false_eq_true, aft_v, aft_n, aftN_v, aftN_n, qwV_s, qwV_0, bI_if, bI_ok, bI_ok0, bI_ok1, true_and, k_0 h, k_1 h, k_2 h, k_4 h, k_5 h, k_7 h, s92 h hN, if_neg q, q3, Bool.false_and, aft_x mH_78, Nat.reduceLeDiff]
theorem s77 (h : Lay x l n) (hI : CI n (c 9) (c 13)) {v a b : Int32} : CL x 77 [.ref (l.1 0 0), .int v, .int a, .int b] (Wo x l n c) K = if inN n.2.1 v = true then (if inP a b = true then K (.inl (some (.int (sweC n (shfC c v.toNatClampNeg a b)).2))) (Wo x l n (sweC n (shfC c v.toNatClampNeg a b)).1) else K (.inr 2) (Wo x l n c)) else K (.inr 1) (Wo x l n c) := by
  have hN2 := hI.2.1
  rw [CL_77]
  by_cases q : inN n.2.1 v = true
  · have q' := q
    obtain ⟨j, hj, rfl⟩ := inN_t (by omega) q
    rw [if_pos q]
    rw [nI_clamp (by omega)]
    have hI' : CI n (shfC c j a b 9) (shfC c j a b 13) := CI_i hI (by funext i; exact cu_k (by decide)) (fun s => by
      unfold shfC
      rw [cu_k (by decide)]
      exact ⟨rfl, rfl⟩)
    have s89' := fun K => s89 (x := x) (c := shfC c j a b) (K := K) h hI'
    unfold shfC at s89' ⊢
    cases q2 : inP a b
    · simp only [t_77_0, t_77_1, t_77_2, t_77_5, t_77_7, t_77_8, t_77_9, t_77_12, t_77_14, t_77_15, t_77_16, t_77_19, t_77_20, t_77_23, decide_true, decide_false, Bool.not_true, Bool.not_false, Nat.reduceLeDiff, Nat.reduceSub, z0_t, z1_f, z1_t, true_or, or_true,  if_true, if_false, Bool.false_eq_true, aft_v, aft_n, aftN_v, aftN_n, qwV_s, qwV_0, bI_if, bI_ok, bI_ok0, bI_ok1, true_and, k_0 h, k_1 h, k_2 h, k_4 h, k_5 h, k_7 h, s93 h hN2, if_pos q', nI_clamp (show j < 2 ^ 31 by omega), Nat.reduceLeDiff, s96, q2, aft_x mH_77]
    · simp only [t_77_0, t_77_1, t_77_2, t_77_5, t_77_7, t_77_8, t_77_9, t_77_12, t_77_14, t_77_15, t_77_16, t_77_19, t_77_20, t_77_23, decide_true, decide_false, Bool.not_true, Bool.not_false, Nat.reduceLeDiff, Nat.reduceSub, z0_t, z1_f, z1_t, true_or, or_true,  if_true, if_false, Bool.false_eq_true, aft_v, aft_n, aftN_v, aftN_n, qwV_s, qwV_0, bI_if, bI_ok, bI_ok0, bI_ok1, true_and, k_0 h, k_1 h, k_2 h, k_4 h, k_5 h, k_7 h, s93 h hN2, if_pos q', nI_clamp (show j < 2 ^ 31 by omega), Nat.reduceLeDiff, Nat.reduceSub, s96, q2, k_12 h hj, s17 h hj, s89']
  · rw [if_neg q]
    simp only [t_77_0, t_77_1, t_77_2, t_77_5, t_77_7, t_77_8, t_77_9, t_77_12, t_77_14, t_77_15, t_77_16, t_77_19, t_77_20, t_77_23, decide_true, decide_false, Bool.not_true, Bool.not_false, Nat.reduceLeDiff, Nat.reduceSub, z0_t, z1_f, z1_t, true_or, or_true,  if_true, if_false, Bool.false_eq_true, aft_v, aft_n, aftN_v, aftN_n, qwV_s, qwV_0, bI_if, bI_ok, bI_ok0, bI_ok1, true_and, k_0 h, k_1 h, k_2 h, k_4 h, k_5 h, k_7 h, s93 h hN2, if_neg q, aft_x mH_77, Nat.reduceLeDiff]
theorem s75 (h : Lay x l n) (hI : CI n (c 9) (c 13)) {v p a b : Int32} : CL x 75 [.ref (l.1 0 0), .int v, .int p, .int a, .int b] (Wo x l n c) K = if inN n.1 v = true then (if inN (szO (c 9) v.toNatClampNeg) p = true then (if inP a b = true then (if (decide (plc (c 9 v.toNatClampNeg 2) (c 10 v.toNatClampNeg) (p - nI 1) = plV a b) || decide (plc (c 9 v.toNatClampNeg 2) (c 10 v.toNatClampNeg) (p + nI 1) = plV a b)) = true then K (.inr 3) (Wo x l n c) else K (.inl (some (.int (sweC n (movC n c v.toNatClampNeg p.toNatClampNeg (plV a b))).2))) (Wo x l n (sweC n (movC n c v.toNatClampNeg p.toNatClampNeg (plV a b))).1)) else K (.inr 2) (Wo x l n c)) else K (.inr 1) (Wo x l n c)) else K (.inr 1) (Wo x l n c) := by
  have hI0 := hI
  obtain ⟨hN, hN2, hN3, hM, hA, hB, hS⟩ := hI0
  rw [CL_75]
  by_cases q : inN n.1 v = true
  · have q' := q
    obtain ⟨j, hj, rfl⟩ := inN_t (by omega) q
    have hj1 : j < n.2.2.2 := by omega
    rw [if_pos q]
    rw [nI_clamp (by omega)]
    have e := (hA j hj1).1
    have hz8 := (hA j hj1).2
    by_cases q2 : inN (szO (c 9) j) p = true
    · have q2' := q2
      obtain ⟨k, hk, rfl⟩ := inN_t (by omega) q2
      rw [if_pos q2]
      rw [nI_clamp (show k < 2 ^ 31 by omega)]
      cases q3 : inP a b
      · simp only [t_75_0, t_75_1, t_75_2, t_75_5, t_75_7, t_75_8, t_75_11, t_75_12, t_75_14, t_75_17, t_75_20, t_75_30, t_75_31, t_75_33, t_75_36, t_75_37, t_75_39, t_75_42, t_75_44, t_75_46, t_75_47, t_75_48, t_75_49, t_75_52, t_75_54, t_75_57, t_75_59, t_75_60, t_75_61, t_75_62, t_75_65, t_75_67, t_75_70, t_75_80, t_75_82, t_75_83, t_75_85, t_75_88, t_75_89, t_75_92, t_75_95, t_75_96, t_75_99, decide_true, decide_false, Bool.not_true, Bool.not_false, Nat.reduceLeDiff, Nat.reduceSub, z0_t, z1_f, z1_t, true_or, or_true,  if_true, if_false, Bool.false_eq_true, aft_v, aft_n, aftN_v, aftN_n, qwV_s, qwV_0, bI_if, bI_ok, bI_ok0, bI_ok1, true_and, k_0 h, k_1 h, k_2 h, k_4 h, k_5 h, k_7 h, s92 h hN, if_pos q', nI_clamp (show j < 2 ^ 31 by omega), k_9 h hj1, s40 h hj1, e, if_neg (nI_pos (show k < 2 ^ 31 by omega)), if_pos (lt_t hk (show szO (c 9) j < 2 ^ 31 by omega)), Nat.reduceLeDiff, s96, q3, aft_x mH_75]
      · have e9 : movC n c j k (plV a b) 9 = c 9 := by unfold movC genC; rw [cw_n (by decide)]; funext i; exact cu_k (by decide)
        have e13 : movC n c j k (plV a b) 13 = c 13 := by unfold movC genC; rw [cw_n (by decide)]; funext i; exact cu_k (by decide)
        have hI' : CI n (movC n c j k (plV a b) 9) (movC n c j k (plV a b) 13) := by rw [e9, e13]; exact hI
        have s89' := fun K => s89 (x := x) (c := movC n c j k (plV a b)) (K := K) h hI'
        have f9 : cu c 10 j (upd (c 10 j) k (plV a b)) 9 = c 9 := by funext i; exact cu_k (by decide)
        have s63' := fun K => s63 (x := x) (c := cu c 10 j (upd (c 10 j) k (plV a b))) (K := K) h hN (by rw [f9]; exact hA) (by rw [f9]; exact hB)
        unfold movC genC at s89' ⊢
        simp only [t_75_0, t_75_1, t_75_2, t_75_5, t_75_7, t_75_8, t_75_11, t_75_12, t_75_14, t_75_17, t_75_20, t_75_30, t_75_31, t_75_33, t_75_36, t_75_37, t_75_39, t_75_42, t_75_44, t_75_46, t_75_47, t_75_48, t_75_49, t_75_52, t_75_54, t_75_57, t_75_59, t_75_60, t_75_61, t_75_62, t_75_65, t_75_67, t_75_70, t_75_80, t_75_82, t_75_83, t_75_85, t_75_88, t_75_89, t_75_92, t_75_95, t_75_96, t_75_99, decide_true, decide_false, Bool.not_true, Bool.not_false, Nat.reduceLeDiff, Nat.reduceSub, z0_t, z1_f, z1_t, true_or, or_true,  if_true, if_false, Bool.false_eq_true, aft_v, aft_n, aftN_v, aftN_n, qwV_s, qwV_0, bI_if, bI_ok, bI_ok0, bI_ok1, true_and, k_0 h, k_1 h, k_2 h, k_4 h, k_5 h, k_7 h, s92 h hN, if_pos q', nI_clamp (show j < 2 ^ 31 by omega), k_9 h hj1, s40 h hj1, e, if_neg (nI_pos (show k < 2 ^ 31 by omega)), if_pos (lt_t hk (show szO (c 9) j < 2 ^ 31 by omega)), Nat.reduceLeDiff, Nat.reduceSub, s96, q3, s99, s41 h hj1, s43 h hj1 e hz8 hk, f_0_0 h, s63', s89']
        by_cases d1 : plc (nI (szO (c 9) j)) (c 10 j) (nI k - nI 1) = plV a b <;> by_cases d2 : plc (nI (szO (c 9) j)) (c 10 j) (nI k + nI 1) = plV a b <;> simp [d1, d2]
    · rw [if_neg q2]
      simp only [t_75_0, t_75_1, t_75_2, t_75_5, t_75_7, t_75_8, t_75_11, t_75_12, t_75_14, t_75_17, t_75_20, t_75_30, t_75_31, t_75_33, t_75_36, t_75_37, t_75_39, t_75_42, t_75_44, t_75_46, t_75_47, t_75_48, t_75_49, t_75_52, t_75_54, t_75_57, t_75_59, t_75_60, t_75_61, t_75_62, t_75_65, t_75_67, t_75_70, t_75_80, t_75_82, t_75_83, t_75_85, t_75_88, t_75_89, t_75_92, t_75_95, t_75_96, t_75_99, decide_true, decide_false, Bool.not_true, Bool.not_false, Nat.reduceLeDiff, Nat.reduceSub, z0_t, z1_f, z1_t, true_or, or_true,  if_true, if_false, Bool.false_eq_true, aft_v, aft_n, aftN_v, aftN_n, qwV_s, qwV_0, bI_if, bI_ok, bI_ok0, bI_ok1, true_and, k_0 h, k_1 h, k_2 h, k_4 h, k_5 h, k_7 h, s92 h hN, if_pos q', nI_clamp (show j < 2 ^ 31 by omega), k_9 h hj1, s40 h hj1, e, Nat.reduceLeDiff, aft_x mH_75]
      unfold inN at q2
      by_cases h1 : p < 0 <;> by_cases h2 : p < nI (szO (c 9) j) <;> simp [h1, h2] at q2 ⊢
  · rw [if_neg q]
    simp only [t_75_0, t_75_1, t_75_2, t_75_5, t_75_7, t_75_8, t_75_11, t_75_12, t_75_14, t_75_17, t_75_20, t_75_30, t_75_31, t_75_33, t_75_36, t_75_37, t_75_39, t_75_42, t_75_44, t_75_46, t_75_47, t_75_48, t_75_49, t_75_52, t_75_54, t_75_57, t_75_59, t_75_60, t_75_61, t_75_62, t_75_65, t_75_67, t_75_70, t_75_80, t_75_82, t_75_83, t_75_85, t_75_88, t_75_89, t_75_92, t_75_95, t_75_96, t_75_99, decide_true, decide_false, Bool.not_true, Bool.not_false, Nat.reduceLeDiff, Nat.reduceSub, z0_t, z1_f, z1_t, true_or, or_true,  if_true, if_false, Bool.false_eq_true, aft_v, aft_n, aftN_v, aftN_n, qwV_s, qwV_0, bI_if, bI_ok, bI_ok0, bI_ok1, true_and, k_0 h, k_1 h, k_2 h, k_4 h, k_5 h, k_7 h, s92 h hN, if_neg q, aft_x mH_75, Nat.reduceLeDiff]
theorem s73 (h : Lay x l n) (hD : l.1 0 1 = l.1 9 n.1) (hI : CI n (c 9) (c 13)) {a b : Int32} : CL x 73 [.ref (l.1 0 0), .int a, .int b] (Wo x l n c) K = if inP a b = true then (if szO (c 9) n.1 = 8 then K (.inr 3) (Wo x l n c) else if plc (c 9 n.1 2) (c 10 n.1) (c 9 n.1 2 - nI 1) = plV a b then K (.inr 3) (Wo x l n c) else K (.inl (some (.int (nI (szO (c 9) n.1 + 1))))) (Wo x l n (drfC n c (plV a b)))) else K (.inr 2) (Wo x l n c) := by
  have hI0 := hI
  obtain ⟨hN, hN2, hN3, hM, hA, hB, hS⟩ := hI0
  have hj1 : n.1 < n.2.2.2 := by omega
  have e := (hA n.1 hj1).1
  have hz8 := (hA n.1 hj1).2
  rw [CL_73]
  cases q3 : inP a b
  · simp only [t_73_0, t_73_1, t_73_2, t_73_5, t_73_6, t_73_7, t_73_10, t_73_11, t_73_12, t_73_15, t_73_18, t_73_20, t_73_23, t_73_33, t_73_34, t_73_37, t_73_38, t_73_41, t_73_44, t_73_45, t_73_46, t_73_49, t_73_50, t_73_53, t_73_63, t_73_64, t_73_67, t_73_68, t_73_71, t_73_72, t_73_75, t_73_78, decide_true, decide_false, Bool.not_true, Bool.not_false, Nat.reduceLeDiff, Nat.reduceSub, z0_t, z1_f, z1_t, true_or, or_true,  if_true, if_false, Bool.false_eq_true, aft_v, aft_n, aftN_v, aftN_n, qwV_s, qwV_0, bI_if, bI_ok, bI_ok0, bI_ok1, true_and, k_0 h, k_1 h, k_2 h, k_4 h, k_5 h, k_7 h, Nat.reduceLeDiff, s96, q3, aft_x mH_73]
  · simp only [t_73_0, t_73_1, t_73_2, t_73_5, t_73_6, t_73_7, t_73_10, t_73_11, t_73_12, t_73_15, decide_true, decide_false, Bool.not_true, Bool.not_false, Nat.reduceLeDiff, Nat.reduceSub, z0_t, z1_f, z1_t, true_or, or_true,  if_true, if_false, Bool.false_eq_true, aft_v, aft_n, aftN_v, aftN_n, qwV_s, qwV_0, bI_if, bI_ok, bI_ok0, bI_ok1, true_and, k_0 h, k_1 h, k_2 h, k_4 h, k_5 h, k_7 h, Nat.reduceLeDiff, Nat.reduceSub, s96, q3, s99, f_0_4 h, hD, k_9 h hj1, s40 h hj1, s41 h hj1]
    by_cases q4 : szO (c 9) n.1 = 8
    · simp only [t_73_0, t_73_1, t_73_2, t_73_5, t_73_6, t_73_7, t_73_10, t_73_11, t_73_12, t_73_15, t_73_18, t_73_20, t_73_23, t_73_33, t_73_34, t_73_37, t_73_38, t_73_41, t_73_44, t_73_45, t_73_46, t_73_49, t_73_50, t_73_53, t_73_63, t_73_64, t_73_67, t_73_68, t_73_71, t_73_72, t_73_75, t_73_78, decide_true, decide_false, Bool.not_true, Bool.not_false, Nat.reduceLeDiff, Nat.reduceSub, z0_t, z1_f, z1_t, true_or, or_true,  if_true, if_false, Bool.false_eq_true, aft_v, aft_n, aftN_v, aftN_n, qwV_s, qwV_0, bI_if, bI_ok, bI_ok0, bI_ok1, true_and, Nat.reduceLeDiff, Nat.reduceSub, f_0_4 h, hD, k_9 h hj1, s40 h hj1, e, q4, if_neg (lt_f (Nat.le_refl 8) (show 8 < 2 ^ 31 by decide))]
    · have hz : szO (c 9) n.1 < 8 := by omega
      have e' : cu (cu c 10 n.1 (upd (c 10 n.1) (szO (c 9) n.1) (plV a b))) 9 n.1 (upd (c 9 n.1) 2 (nI (szO (c 9) n.1 + 1))) 9 n.1 2 = nI (szO (c 9) n.1 + 1) := by rw [cu_s, upd_s]
      unfold drfC
      by_cases q5 : plc (c 9 n.1 2) (c 10 n.1) (c 9 n.1 2 - nI 1) = plV a b
      · have q5' := q5
        rw [e] at q5'
        simp only [t_73_0, t_73_1, t_73_2, t_73_5, t_73_6, t_73_7, t_73_10, t_73_11, t_73_12, t_73_15, t_73_18, t_73_20, t_73_23, t_73_33, t_73_34, t_73_37, t_73_38, t_73_41, t_73_44, t_73_45, t_73_46, t_73_49, t_73_50, t_73_53, t_73_63, t_73_64, t_73_67, t_73_68, t_73_71, t_73_72, t_73_75, t_73_78, decide_true, decide_false, Bool.not_true, Bool.not_false, Nat.reduceLeDiff, Nat.reduceSub, z0_t, z1_f, z1_t, true_or, or_true,  if_true, if_false, Bool.false_eq_true, aft_v, aft_n, aftN_v, aftN_n, qwV_s, qwV_0, bI_if, bI_ok, bI_ok0, bI_ok1, true_and, Nat.reduceLeDiff, Nat.reduceSub, f_0_4 h, hD, k_9 h hj1, s40 h hj1, s41 h hj1, e, if_neg q4, if_pos q5', if_pos (lt_t hz (show 8 < 2 ^ 31 by decide))]
      · have q5' := q5
        rw [e] at q5'
        simp only [t_73_0, t_73_1, t_73_2, t_73_5, t_73_6, t_73_7, t_73_10, t_73_11, t_73_12, t_73_15, t_73_18, t_73_20, t_73_23, t_73_33, t_73_34, t_73_37, t_73_38, t_73_41, t_73_44, t_73_45, t_73_46, t_73_49, t_73_50, t_73_53, t_73_63, t_73_64, t_73_67, t_73_68, t_73_71, t_73_72, t_73_75, t_73_78, decide_true, decide_false, Bool.not_true, Bool.not_false, Nat.reduceLeDiff, Nat.reduceSub, z0_t, z1_f, z1_t, true_or, or_true,  if_true, if_false, Bool.false_eq_true, aft_v, aft_n, aftN_v, aftN_n, qwV_s, qwV_0, bI_if, bI_ok, bI_ok0, bI_ok1, true_and, Nat.reduceLeDiff, Nat.reduceSub, f_0_4 h, hD, k_9 h hj1, s40 h hj1, s41 h hj1, e, if_neg q4, if_neg q5', if_pos (lt_t hz (show 8 < 2 ^ 31 by decide)), s42 h hj1 e hz, e']
end
