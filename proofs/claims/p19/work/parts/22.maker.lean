/-! the class's own calls, those that make nothing -/
def prB (v : Int32) : Bool := !decide (v = 0)
def scO (S : Fn2) (s : Nat) : Nat := (S s 0).toNatClampNeg
/-- what holds of the class's state between calls -/
def CI (n : Nn) (A S : Fn2) : Prop := (n.1 ≤ 8 ∧ n.1 ≤ n.2.2.2) ∧ n.2.1 ≤ 10 ∧ n.2.2.1 ≤ 6 ∧ n.2.2.2 = n.1 + 1 ∧ SzA n.2.2.2 A ∧ SzB n.1 A ∧ (∀ s, s < n.2.2.1 → S s 0 = nI (scO S s) ∧ scO S s ≤ 3 ∧ S s 7 = bI (prB (S s 7)))
def lbls (n : Nn) (c : Cc) (s : Nat) : S2 := lbA n.2.1 (c 12) (c 13 s) (c 15 0) (c 16 0) (scO (c 13) s)
def lins (n : Nn) (c : Cc) (s : Nat) : Nat → Int32 := itF (drR (c 9) (c 10) (c 13 s) (shS c s)) n.1 0 (cp 64 (c 17 0) nn1)
def drw (n : Nn) (c : Cc) (s : Nat) : Cc := cu (cL c 0 (lbls n c s)) 17 0 (lins n c s)
theorem drw_n {n : Nn} {c : Cc} {s k : Nat} (h1 : k ≠ 15) (h2 : k ≠ 16) (h3 : k ≠ 17) : drw n c s k = c k := by
  funext i
  exact (cu_k h3).trans (congrFun (cL_n h1 h2) i)
theorem drw_15 {n : Nn} {c : Cc} {s : Nat} : drw n c s 15 0 = (lbls n c s).1 := (cu_k (by decide)).trans cL_1
theorem drw_16 {n : Nn} {c : Cc} {s : Nat} : drw n c s 16 0 = (lbls n c s).2 := (cu_k (by decide)).trans cL_2
theorem drw_17 {n : Nn} {c : Cc} {s : Nat} : drw n c s 17 0 = lins n c s := cu_s
theorem drw_15s {n : Nn} {c : Cc} {s i : Nat} (hi : i ≠ 0) : drw n c s 15 i = c 15 i := (cu_k (by decide)).trans ((cu_i hi).trans (cu_k (by decide)))
theorem drw_16s {n : Nn} {c : Cc} {s i : Nat} (hi : i ≠ 0) : drw n c s 16 i = c 16 i := (cu_k (by decide)).trans ((cu_k (by decide)).trans (cu_i hi))
theorem drw_17s {n : Nn} {c : Cc} {s i : Nat} (hi : i ≠ 0) : drw n c s 17 i = c 17 i := (cu_i hi).trans (congrFun (cL_n (by decide) (by decide)) i)
def errC (n : Nn) (c : Cc) (s : Nat) : Int32 := if prB (c 13 s 7) = true then diffs (c 15 (s + 1)) (lbls n c s).1 (c 17 (s + 1)) (lins n c s) else nI 0
def inN (N : Nat) (v : Int32) : Bool := !decide (v < 0) && decide (v < nI N)
theorem inN_t {N : Nat} (hN : N < 2 ^ 31) {v : Int32} (h : inN N v = true) : ∃ j, j < N ∧ v = nI j := by
  unfold inN at h
  rcases pk_ix v hN with q | q | q
  · simp [q] at h
  · obtain ⟨h1, h2⟩ := (Bool.and_eq_true _ _).mp h
    exact absurd (of_decide_eq_true h2) (Int32.not_lt.mpr q)
  · exact q
theorem inN_nI {N j : Nat} (hN : N < 2 ^ 31) (h : j < N) : inN N (nI j) = true := by
  unfold inN
  simp [nI_pos (show j < 2 ^ 31 by omega), lt_t h hN]
/-- the JDK's count of bits -/
def ush (a b : Int32) : Int32 := (a.toUInt32 >>> (b.toUInt32 &&& Int32.toUInt32 31)).toInt32
def bc1 (i : Int32) : Int32 := i - (ush i (nI 1) &&& nI 1431655765)
def bc2 (i : Int32) : Int32 := (i &&& nI 858993459) + (ush i (nI 2) &&& nI 858993459)
def bc3 (i : Int32) : Int32 := (i + ush i (nI 4)) &&& nI 252645135
def bc4 (i : Int32) : Int32 := i + ush i (nI 8)
def bc5 (i : Int32) : Int32 := (i + ush i (nI 16)) &&& nI 63
def bcI (i : Int32) : Int32 := bc5 (bc4 (bc3 (bc2 (bc1 i))))
section
variable {x : Cx} {l : Ly} {n : Nn} {c : Cc} {i q q' z mc ms : Nat} {w : Wd} {K post : Po}
theorem s0 {v : Int32} : CL x 0 [.int v] w K = K (.inl (some (.int (bcI v)))) w := by
  rw [CL_0]
  simp only [t_0_0, t_0_1, t_0_2, t_0_3, t_0_4, t_0_7, t_0_8, t_0_9, t_0_10, t_0_11, t_0_14, t_0_15, t_0_16, t_0_17, t_0_18, t_0_21, t_0_22, t_0_23, t_0_24, t_0_25, t_0_26, t_0_27, t_0_28, t_0_29, t_0_32, t_0_33, t_0_34, t_0_35, t_0_36, t_0_38, t_0_39, t_0_40, t_0_41, t_0_42, t_0_43, t_0_45, t_0_46, t_0_47, t_0_48, t_0_49, t_0_51, t_0_52, decide_true, decide_false, Bool.not_true, Bool.not_false, Nat.reduceLeDiff, Nat.reduceSub, z0_t, z1_f, z1_t, true_or, or_true,  if_true, if_false, Bool.false_eq_true, aft_v, aft_n, aftN_v, aftN_n, qwV_s, qwV_0, bI_if, bI_ok, bI_ok0, bI_ok1, true_and]
  rfl
theorem s91 (h : Lay x l n) (hI : CI n (c 9) (c 13)) {s : Nat} (hs' : s < n.2.2.1) : CL x 91 [.ref (l.1 0 0), .ref (l.1 13 s)] (Wo x l n c) K = K (.inl none) (Wo x l n (drw n c s)) := by
  obtain ⟨hN, hN2, hN3, hM, hA, hB, hS⟩ := hI
  obtain ⟨a1, a2, a3⟩ := hS s hs'
  have s70' := fun f K => s70 (x := x) (q := 0) (c := cL c 0 f) (K := K) h hN (by rw [cL_n (by decide) (by decide)]; exact hA) hs' (by omega)
  simp only [cL_n (show 9 ≠ 15 by decide) (show 9 ≠ 16 by decide), cL_n (show 10 ≠ 15 by decide) (show 10 ≠ 16 by decide), cL_n (show 11 ≠ 15 by decide) (show 11 ≠ 16 by decide), cL_n (show 13 ≠ 15 by decide) (show 13 ≠ 16 by decide), cL_n (show 17 ≠ 15 by decide) (show 17 ≠ 16 by decide), shS] at s70'
  rw [CL_91]
  simp only [t_91_0, t_91_1, t_91_4, t_91_5, t_91_6, t_91_9, t_91_12, t_91_13, t_91_16, t_91_17, t_91_18, t_91_21, t_91_24, decide_true, decide_false, Bool.not_true, Bool.not_false, Nat.reduceLeDiff, Nat.reduceSub, z0_t, z1_f, z1_t, true_or, or_true,  if_true, if_false, Bool.false_eq_true, aft_v, aft_n, aftN_v, aftN_n, qwV_s, qwV_0, bI_if, bI_ok, bI_ok0, bI_ok1, true_and, k_0 h, k_1 h, k_2 h, k_4 h, k_5 h, k_7 h, f_0_0 h, f_0_1 h, f_0_3 h, s56 h hN2 hs' (show 0 < n.2.2.1 + 1 by omega) a2 a1, s70']
  rfl
theorem s36' (h : Lay x l n) (hI : CI n (c 9) (c 13)) {s : Nat} (hs' : s < n.2.2.1) : CL x 36 [.ref (l.1 13 s), .ref (l.1 14 0)] (Wo x l n (drw n c s)) K = K (.inl (some (.int (errC n c s)))) (Wo x l n (drw n c s)) := by
  obtain ⟨hN, hN2, hN3, hM, hA, hB, hS⟩ := hI
  have b : drw n c s 13 s 7 = bI (prB (c 13 s 7)) := by rw [drw_n (by decide) (by decide) (by decide)]; exact (hS s hs').2.2
  rw [s36 h hs' (show 0 < n.2.2.1 + 1 by omega) b, drw_15, drw_17, drw_15s (by omega), drw_17s (by omega)]
  rfl
theorem s90 (h : Lay x l n) (hI : CI n (c 9) (c 13)) {s : Nat} (hs' : s < n.2.2.1) : CL x 90 [.ref (l.1 0 0), .ref (l.1 13 s)] (Wo x l n c) K = K (.inl (some (.int (errC n c s)))) (Wo x l n (drw n c s)) := by
  rw [CL_90]
  simp only [t_90_0, t_90_1, t_90_2, t_90_5, t_90_6, t_90_7, t_90_10, t_90_13, decide_true, decide_false, Bool.not_true, Bool.not_false, Nat.reduceLeDiff, Nat.reduceSub, z0_t, z1_f, z1_t, true_or, or_true,  if_true, if_false, Bool.false_eq_true, aft_v, aft_n, aftN_v, aftN_n, qwV_s, qwV_0, bI_if, bI_ok, bI_ok0, bI_ok1, true_and, k_0 h, k_1 h, k_2 h, k_4 h, k_5 h, k_7 h, s91 h hI hs', f_0_3 h, k_13 h hs', s36' h hI hs']
def swF (n : Nn) (s : Nat) (p : Cc × Int32) : Cc × Int32 := (drw n p.1 s, if errC n p.1 s ≤ 0 then p.2 else p.2 + nI 1)
theorem s89_l (h : Lay x l n) : ∀ (d s : Nat) (c : Cc) (a : Int32) (l3 : Option Value), CI n (c 9) (c 13) → s + d = n.2.2.1 → WP x 89 4 [some (.ref (l.1 0 0)), some (.int a), some (.int (nI s)), l3] [] (Wo x l n c) mc ms post = post (.inl (some (.int (itF (swF n) d s (c, a)).2))) (Wo x l n (itF (swF n) d s (c, a)).1)
  | 0, s, c, a, l3, hI, hj => by
    have hN := hI.2.2.1
    rw [t_89_4]
    simp only [t_89_5, t_89_6, t_89_9, t_89_12, t_89_15, t_89_16, t_89_19, t_89_20, t_89_23, t_89_26, t_89_27, t_89_28, t_89_29, t_89_32, t_89_33, t_89_34, t_89_37, t_89_40, t_89_43, t_89_46, t_89_49, t_89_52, t_89_53, decide_true, decide_false, Bool.not_true, Bool.not_false, Nat.reduceLeDiff, Nat.reduceSub, z0_t, z1_f, z1_t, true_or, or_true,  if_true, if_false, Bool.false_eq_true, aft_v, aft_n, aftN_v, aftN_n, qwV_s, qwV_0, bI_if, bI_ok, bI_ok0, bI_ok1, true_and, k_0 h, k_1 h, k_2 h, k_4 h, k_5 h, k_7 h, f_0_2 h, s6s h, if_pos (le_t (show n.2.2.1 ≤ s by omega) (show s < 2 ^ 31 by omega)), itF_0]
  | d + 1, s, c, a, l3, hI, hj => by
    have hN := hI.2.2.1
    have hs1 : s < n.2.2.1 := by omega
    have e9 : drw n c s 9 = c 9 := drw_n (by decide) (by decide) (by decide)
    have e13 : drw n c s 13 = c 13 := drw_n (by decide) (by decide) (by decide)
    have ih := fun a l3 => s89_l h d (s + 1) (drw n c s) a l3 (by rw [e9, e13]; exact hI) (by omega)
    rw [t_89_4]
    simp only [t_89_5, t_89_6, t_89_9, t_89_12, t_89_15, t_89_16, t_89_19, t_89_20, t_89_23, t_89_26, t_89_27, t_89_28, t_89_29, t_89_32, t_89_33, t_89_34, t_89_37, t_89_40, t_89_43, t_89_46, t_89_49, t_89_52, t_89_53, decide_true, decide_false, Bool.not_true, Bool.not_false, Nat.reduceLeDiff, Nat.reduceSub, z0_t, z1_f, z1_t, true_or, or_true,  if_true, if_false, Bool.false_eq_true, aft_v, aft_n, aftN_v, aftN_n, qwV_s, qwV_0, bI_if, bI_ok, bI_ok0, bI_ok1, true_and, k_0 h, k_1 h, k_2 h, k_4 h, k_5 h, k_7 h, f_0_2 h, f_0_3 h, s6s h, s8s h hN hs1, k_13 h hs1, if_neg (le_f hs1 (show n.2.2.1 < 2 ^ 31 by omega)), s91 h hI hs1, s36' h hI hs1, nI_add, ih]
    rw [itF_s]
    unfold swF
    by_cases h1 : errC n c s ≤ 0 <;> simp only [h1, if_true, if_false]
def sweC (n : Nn) (c : Cc) : Cc × Int32 := itF (swF n) n.2.2.1 0 (c, nI 0)
theorem s89 (h : Lay x l n) (hI : CI n (c 9) (c 13)) : CL x 89 [.ref (l.1 0 0)] (Wo x l n c) K = K (.inl (some (.int (sweC n c).2))) (Wo x l n (sweC n c).1) := by
  rw [CL_89]
  simp only [t_89_0, t_89_1, t_89_2, t_89_3, s89_l h n.2.2.1 0 c _ _ hI (Nat.zero_add _), sweC]
theorem s92 (h : Lay x l n) (hN : n.1 ≤ 8 ∧ n.1 ≤ n.2.2.2) {v : Int32} : CL x 92 [.ref (l.1 0 0), .int v] (Wo x l n c) K = if inN n.1 v = true then K (.inl (some (.ref (l.1 9 v.toNatClampNeg)))) (Wo x l n c) else K (.inr 1) (Wo x l n c) := by
  rw [CL_92]
  by_cases q : inN n.1 v = true
  · obtain ⟨j, hj, rfl⟩ := inN_t (by omega) q
    rw [if_pos q, nI_clamp (by omega)]
    simp only [t_92_0, t_92_1, t_92_4, t_92_5, t_92_6, t_92_9, t_92_12, t_92_15, t_92_25, t_92_26, t_92_29, t_92_30, t_92_33, decide_true, decide_false, Bool.not_true, Bool.not_false, Nat.reduceLeDiff, Nat.reduceSub, z0_t, z1_f, z1_t, true_or, or_true,  if_true, if_false, Bool.false_eq_true, aft_v, aft_n, aftN_v, aftN_n, qwV_s, qwV_0, bI_if, bI_ok, bI_ok0, bI_ok1, true_and, k_0 h, k_1 h, k_2 h, k_4 h, k_5 h, k_7 h, f_0_0 h, s60 h, if_neg (nI_pos (show j < 2 ^ 31 by omega)), if_pos (lt_t hj (show n.1 < 2 ^ 31 by omega)), s61 h hN hj]
  · rw [if_neg q]
    simp only [t_92_0, t_92_1, t_92_4, t_92_5, t_92_6, t_92_9, t_92_12, t_92_15, t_92_25, t_92_26, t_92_29, t_92_30, t_92_33, decide_true, decide_false, Bool.not_true, Bool.not_false, Nat.reduceLeDiff, Nat.reduceSub, z0_t, z1_f, z1_t, true_or, or_true,  if_true, if_false, Bool.false_eq_true, aft_v, aft_n, aftN_v, aftN_n, qwV_s, qwV_0, bI_if, bI_ok, bI_ok0, bI_ok1, true_and, k_0 h, k_1 h, k_2 h, k_4 h, k_5 h, k_7 h, f_0_0 h, s60 h, Nat.reduceLeDiff]
    unfold inN at q
    by_cases h1 : v < 0 <;> by_cases h2 : v < nI n.1 <;> simp [h1, h2] at q ⊢
theorem s93 (h : Lay x l n) (hN : n.2.1 ≤ 10) {v : Int32} : CL x 93 [.ref (l.1 0 0), .int v] (Wo x l n c) K = if inN n.2.1 v = true then K (.inl (some (.ref (l.1 12 v.toNatClampNeg)))) (Wo x l n c) else K (.inr 1) (Wo x l n c) := by
  rw [CL_93]
  by_cases q : inN n.2.1 v = true
  · obtain ⟨j, hj, rfl⟩ := inN_t (by omega) q
    rw [if_pos q, nI_clamp (by omega)]
    simp only [t_93_0, t_93_1, t_93_4, t_93_5, t_93_6, t_93_9, t_93_12, t_93_15, t_93_25, t_93_26, t_93_29, t_93_30, t_93_33, decide_true, decide_false, Bool.not_true, Bool.not_false, Nat.reduceLeDiff, Nat.reduceSub, z0_t, z1_f, z1_t, true_or, or_true,  if_true, if_false, Bool.false_eq_true, aft_v, aft_n, aftN_v, aftN_n, qwV_s, qwV_0, bI_if, bI_ok, bI_ok0, bI_ok1, true_and, k_0 h, k_1 h, k_2 h, k_4 h, k_5 h, k_7 h, f_0_1 h, s53 h, if_neg (nI_pos (show j < 2 ^ 31 by omega)), if_pos (lt_t hj (show n.2.1 < 2 ^ 31 by omega)), s54 h hN hj]
  · rw [if_neg q]
    simp only [t_93_0, t_93_1, t_93_4, t_93_5, t_93_6, t_93_9, t_93_12, t_93_15, t_93_25, t_93_26, t_93_29, t_93_30, t_93_33, decide_true, decide_false, Bool.not_true, Bool.not_false, Nat.reduceLeDiff, Nat.reduceSub, z0_t, z1_f, z1_t, true_or, or_true,  if_true, if_false, Bool.false_eq_true, aft_v, aft_n, aftN_v, aftN_n, qwV_s, qwV_0, bI_if, bI_ok, bI_ok0, bI_ok1, true_and, k_0 h, k_1 h, k_2 h, k_4 h, k_5 h, k_7 h, f_0_1 h, s53 h, Nat.reduceLeDiff]
    unfold inN at q
    by_cases h1 : v < 0 <;> by_cases h2 : v < nI n.2.1 <;> simp [h1, h2] at q ⊢
theorem s94 (h : Lay x l n) (hN : n.2.2.1 ≤ 6) {v : Int32} : CL x 94 [.ref (l.1 0 0), .int v] (Wo x l n c) K = if inN n.2.2.1 v = true then K (.inl (some (.ref (l.1 13 v.toNatClampNeg)))) (Wo x l n c) else K (.inr 1) (Wo x l n c) := by
  rw [CL_94]
  by_cases q : inN n.2.2.1 v = true
  · obtain ⟨j, hj, rfl⟩ := inN_t (by omega) q
    rw [if_pos q, nI_clamp (by omega)]
    simp only [t_94_0, t_94_1, t_94_4, t_94_5, t_94_6, t_94_9, t_94_12, t_94_15, t_94_25, t_94_26, t_94_29, t_94_30, t_94_33, t_94_36, decide_true, decide_false, Bool.not_true, Bool.not_false, Nat.reduceLeDiff, Nat.reduceSub, z0_t, z1_f, z1_t, true_or, or_true,  if_true, if_false, Bool.false_eq_true, aft_v, aft_n, aftN_v, aftN_n, qwV_s, qwV_0, bI_if, bI_ok, bI_ok0, bI_ok1, true_and, k_0 h, k_1 h, k_2 h, k_4 h, k_5 h, k_7 h, f_0_2 h, s6s h, s8s h hN hj, k_13 h hj, if_neg (nI_pos (show j < 2 ^ 31 by omega)), if_pos (lt_t hj (show n.2.2.1 < 2 ^ 31 by omega))]
  · rw [if_neg q]
    simp only [t_94_0, t_94_1, t_94_4, t_94_5, t_94_6, t_94_9, t_94_12, t_94_15, t_94_25, t_94_26, t_94_29, t_94_30, t_94_33, t_94_36, decide_true, decide_false, Bool.not_true, Bool.not_false, Nat.reduceLeDiff, Nat.reduceSub, z0_t, z1_f, z1_t, true_or, or_true,  if_true, if_false, Bool.false_eq_true, aft_v, aft_n, aftN_v, aftN_n, qwV_s, qwV_0, bI_if, bI_ok, bI_ok0, bI_ok1, true_and, k_0 h, k_1 h, k_2 h, k_4 h, k_5 h, k_7 h, f_0_2 h, s6s h, Nat.reduceLeDiff]
    unfold inN at q
    by_cases h1 : v < 0 <;> by_cases h2 : v < nI n.2.2.1 <;> simp [h1, h2] at q ⊢
end
