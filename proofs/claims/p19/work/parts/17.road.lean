/-! what the class's small methods say -/
theorem le_t {a b : Nat} (h : a ≤ b) (hb : b < 2 ^ 31) : nI a ≤ nI b := (nI_leI (Nat.lt_of_le_of_lt h hb) hb).mpr h
theorem le_f {a b : Nat} (h : b < a) (ha : a < 2 ^ 31) : ¬ nI a ≤ nI b := fun q => Nat.not_le_of_lt h ((nI_leI ha (Nat.lt_trans h ha)).mp q)
theorem lt_t {a b : Nat} (h : a < b) (hb : b < 2 ^ 31) : nI a < nI b := nI_lt h hb
theorem lt_f {a b : Nat} (h : b ≤ a) (ha : a < 2 ^ 31) : ¬ nI a < nI b := nI_nlt h ha
theorem n40 : (¬ nI 40 = 0) = True := eq_true (by decide)
def hs (s p : Int32) : Bool := decide (¬ ((s >>> (p &&& 31)) &&& nI 1 = 0))
def xO (p : Int32) : Int32 := p - p / nI 40 * nI 40
def yO (p : Int32) : Int32 := p / nI 40
def plc (z : Int32) (f : Nat → Int32) (p : Int32) : Int32 := if p < 0 then -1 else if z ≤ p then -1 else if nI 8 ≤ p then -1 else f p.toNatClampNeg
theorem plc_in {z j : Nat} {f : Nat → Int32} (h : j < z) (hz : z ≤ 8) : plc (nI z) f (nI j) = f j := by
  unfold plc
  rw [if_neg (nI_pos (by omega)), if_neg (le_f h (by omega)), if_neg (le_f (by omega) (by omega)), nI_clamp (by omega)]
def anyB (f : Nat → Bool) : Nat → Nat → Bool
  | 0, _ => false
  | d + 1, j => f j || anyB f d (j + 1)
def cntI (f : Nat → Bool) : Nat → Nat → Int32 → Int32
  | 0, _, a => a
  | d + 1, j, a => cntI f d (j + 1) (if f j = true then a + nI 1 else a)
def inR (lo v hi : Int32) : Bool := !decide (v < lo) && decide (v ≤ hi)
def isc (v : Int32) : Bool := !decide (v < 0) && decide (v < nI 4)
theorem anyB_0 {f : Nat → Bool} {j : Nat} : anyB f 0 j = false := rfl
theorem anyB_s {f : Nat → Bool} {d j : Nat} : anyB f (d + 1) j = (f j || anyB f d (j + 1)) := rfl
theorem cntI_0 {f : Nat → Bool} {j : Nat} {a : Int32} : cntI f 0 j a = a := rfl
theorem cntI_s {f : Nat → Bool} {d j : Nat} {a : Int32} : cntI f (d + 1) j a = cntI f d (j + 1) (if f j = true then a + nI 1 else a) := rfl
section
variable {x : Cx} {w : Wd} {K : Po}
theorem s102 {s p : Int32} : CL x 102 [.int s, .int p] w K = K (.inl (some (.int (bI (hs s p))))) w := by
  rw [CL_102]
  simp only [t_102_0, t_102_1, t_102_2, t_102_3, t_102_4, t_102_5, t_102_8, t_102_9, t_102_12, t_102_13, decide_true, decide_false, Bool.not_true, Bool.not_false, Nat.reduceLeDiff, Nat.reduceSub, z0_t, z1_f, z1_t, true_or, or_true,  if_true, if_false, Bool.false_eq_true, aft_v, aft_n, aftN_v, aftN_n, qwV_s, qwV_0, bI_if, bI_ok, bI_ok0, bI_ok1, true_and, bI_ok0, bI_ok1]
  unfold hs bI
  split <;> simp_all
theorem s100 {p : Int32} : CL x 100 [.int p] w K = K (.inl (some (.int (xO p)))) w := by
  rw [CL_100]
  simp only [t_100_0, t_100_1, t_100_3, t_100_4, decide_true, decide_false, Bool.not_true, Bool.not_false, Nat.reduceLeDiff, Nat.reduceSub, z0_t, z1_f, z1_t, true_or, or_true,  if_true, if_false, Bool.false_eq_true, aft_v, aft_n, aftN_v, aftN_n, qwV_s, qwV_0, bI_if, bI_ok, bI_ok0, bI_ok1, true_and, n40, xO]
theorem s101 {p : Int32} : CL x 101 [.int p] w K = K (.inl (some (.int (yO p)))) w := by
  rw [CL_101]
  simp only [t_101_0, t_101_1, t_101_3, t_101_4, decide_true, decide_false, Bool.not_true, Bool.not_false, Nat.reduceLeDiff, Nat.reduceSub, z0_t, z1_f, z1_t, true_or, or_true,  if_true, if_false, Bool.false_eq_true, aft_v, aft_n, aftN_v, aftN_n, qwV_s, qwV_0, bI_if, bI_ok, bI_ok0, bI_ok1, true_and, n40, yO]
theorem s99 {a b : Int32} : CL x 99 [.int a, .int b] w K = K (.inl (some (.int (b * nI 40 + a)))) w := by
  rw [CL_99]
  simp only [t_99_0, t_99_1, t_99_3, t_99_4, t_99_5, t_99_6, decide_true, decide_false, Bool.not_true, Bool.not_false, Nat.reduceLeDiff, Nat.reduceSub, z0_t, z1_f, z1_t, true_or, or_true,  if_true, if_false, Bool.false_eq_true, aft_v, aft_n, aftN_v, aftN_n, qwV_s, qwV_0, bI_if, bI_ok, bI_ok0, bI_ok1, true_and]
theorem s98 {a v b : Int32} : CL x 98 [.int a, .int v, .int b] w K = if inR a v b = true then K (.inl none) w else K (.inr 2) w := by
  rw [CL_98]
  simp only [t_98_0, t_98_1, t_98_2, t_98_5, t_98_6, t_98_7, t_98_10, t_98_20, decide_true, decide_false, Bool.not_true, Bool.not_false, Nat.reduceLeDiff, Nat.reduceSub, z0_t, z1_f, z1_t, true_or, or_true,  if_true, if_false, Bool.false_eq_true, aft_v, aft_n, aftN_v, aftN_n, qwV_s, qwV_0, bI_if, bI_ok, bI_ok0, bI_ok1, true_and, Nat.reduceLeDiff]
  unfold inR
  by_cases h1 : v < a <;> by_cases h2 : v ≤ b <;> simp [h1, h2]
theorem s95 {v : Int32} : CL x 95 [.int v] w K = if isc v = true then K (.inl none) w else K (.inr 1) w := by
  rw [CL_95]
  simp only [t_95_0, t_95_1, t_95_4, t_95_5, t_95_6, t_95_9, t_95_19, decide_true, decide_false, Bool.not_true, Bool.not_false, Nat.reduceLeDiff, Nat.reduceSub, z0_t, z1_f, z1_t, true_or, or_true,  if_true, if_false, Bool.false_eq_true, aft_v, aft_n, aftN_v, aftN_n, qwV_s, qwV_0, bI_if, bI_ok, bI_ok0, bI_ok1, true_and, Nat.reduceLeDiff]
  unfold isc
  by_cases h1 : v < 0 <;> by_cases h2 : v < nI 4 <;> simp [h1, h2]
theorem s97 {v : Int32} : CL x 97 [.int v] w K = if inR (nI 0) v (nI 3) = true then K (.inl none) w else K (.inr 2) w := by
  rw [CL_97]
  simp only [t_97_0, t_97_1, t_97_2, t_97_3, t_97_6, decide_true, decide_false, Bool.not_true, Bool.not_false, Nat.reduceLeDiff, Nat.reduceSub, z0_t, z1_f, z1_t, true_or, or_true,  if_true, if_false, Bool.false_eq_true, aft_v, aft_n, aftN_v, aftN_n, qwV_s, qwV_0, bI_if, bI_ok, bI_ok0, bI_ok1, true_and, Nat.reduceLeDiff, s98]
  split <;> simp only [t_97_0, t_97_1, t_97_2, t_97_3, t_97_6, decide_true, decide_false, Bool.not_true, Bool.not_false, Nat.reduceLeDiff, Nat.reduceSub, z0_t, z1_f, z1_t, true_or, or_true,  if_true, if_false, Bool.false_eq_true, aft_v, aft_n, aftN_v, aftN_n, qwV_s, qwV_0, bI_if, bI_ok, bI_ok0, bI_ok1, true_and, aft_x mH_97]
theorem s96 {a b : Int32} : CL x 96 [.int a, .int b] w K = if (inR (nI 0) a (nI 39) && inR (nI 0) b (nI 39)) = true then K (.inl none) w else K (.inr 2) w := by
  rw [CL_96]
  simp only [t_96_0, t_96_1, t_96_2, t_96_4, t_96_7, t_96_8, t_96_9, t_96_11, t_96_14, decide_true, decide_false, Bool.not_true, Bool.not_false, Nat.reduceLeDiff, Nat.reduceSub, z0_t, z1_f, z1_t, true_or, or_true,  if_true, if_false, Bool.false_eq_true, aft_v, aft_n, aftN_v, aftN_n, qwV_s, qwV_0, bI_if, bI_ok, bI_ok0, bI_ok1, true_and, Nat.reduceLeDiff, s98]
  cases inR (nI 0) a (nI 39)
  · simp [aft_x mH_96]
  · simp only [t_96_0, t_96_1, t_96_2, t_96_4, t_96_7, t_96_8, t_96_9, t_96_11, t_96_14, decide_true, decide_false, Bool.not_true, Bool.not_false, Nat.reduceLeDiff, Nat.reduceSub, z0_t, z1_f, z1_t, true_or, or_true,  if_true, if_false, Bool.false_eq_true, aft_v, aft_n, aftN_v, aftN_n, qwV_s, qwV_0, bI_if, bI_ok, bI_ok0, bI_ok1, true_and, Nat.reduceLeDiff, Nat.reduceSub, s98, if_true]
    cases inR (nI 0) b (nI 39)
    · simp [aft_x mH_96]
    · simp only [t_96_0, t_96_1, t_96_2, t_96_4, t_96_7, t_96_8, t_96_9, t_96_11, t_96_14, decide_true, decide_false, Bool.not_true, Bool.not_false, Nat.reduceLeDiff, Nat.reduceSub, z0_t, z1_f, z1_t, true_or, or_true,  if_true, if_false, Bool.false_eq_true, aft_v, aft_n, aftN_v, aftN_n, qwV_s, qwV_0, bI_if, bI_ok, bI_ok0, bI_ok1, true_and, if_true, Bool.and_self]
end
section
variable {x : Cx} {l : Ly} {n : Nn} {c : Cc} {i z mc ms : Nat} {K post : Po}
theorem s40 (h : Lay x l n) (hi : i < n.2.2.2) : CL x 40 [.ref (l.1 9 i)] (Wo x l n c) K = K (.inl (some (.int (c 9 i 2)))) (Wo x l n c) := by
  rw [CL_40]
  simp only [t_40_0, t_40_1, t_40_4, decide_true, decide_false, Bool.not_true, Bool.not_false, Nat.reduceLeDiff, Nat.reduceSub, z0_t, z1_f, z1_t, true_or, or_true,  if_true, if_false, Bool.false_eq_true, aft_v, aft_n, aftN_v, aftN_n, qwV_s, qwV_0, bI_if, bI_ok, bI_ok0, bI_ok1, true_and, f_9_2 h hi]
theorem s41 (h : Lay x l n) (hi : i < n.2.2.2) {p : Int32} : CL x 41 [.ref (l.1 9 i), .int p] (Wo x l n c) K = K (.inl (some (.int (plc (c 9 i 2) (c 10 i) p)))) (Wo x l n c) := by
  rw [CL_41]
  simp only [t_41_0, t_41_1, t_41_4, t_41_5, t_41_6, t_41_9, t_41_12, t_41_13, t_41_14, t_41_17, t_41_18, t_41_21, t_41_22, t_41_25, t_41_26, t_41_27, t_41_30, t_41_31, decide_true, decide_false, Bool.not_true, Bool.not_false, Nat.reduceLeDiff, Nat.reduceSub, z0_t, z1_f, z1_t, true_or, or_true,  if_true, if_false, Bool.false_eq_true, aft_v, aft_n, aftN_v, aftN_n, qwV_s, qwV_0, bI_if, bI_ok, bI_ok0, bI_ok1, true_and, f_9_2 h hi, f_9_0 h hi, rA_10 h hi, rL_10 h hi]
  unfold plc
  rcases pk_ix p (n := 8) (by decide) with q | q | ⟨j, hj, rfl⟩
  · simp only [if_pos q]
  · by_cases q2 : p < 0
    · simp only [if_pos q2]
    · simp only [if_pos q, if_neg q2, ite_self]
  · simp only [vp_in_nI hj (by decide), true_and]
    split
    · rfl
    · split
      · rfl
      · split <;> rfl
theorem s45 (h : Lay x l n) (hi : i < n.2.2.2) {s : Int32} : CL x 45 [.ref (l.1 9 i), .int s] (Wo x l n c) K = K (.inl (some (.int (bI (!decide (c 9 i 3 < s)))))) (Wo x l n c) := by
  rw [CL_45]
  simp only [t_45_0, t_45_1, t_45_4, t_45_5, t_45_8, t_45_9, t_45_12, t_45_13, decide_true, decide_false, Bool.not_true, Bool.not_false, Nat.reduceLeDiff, Nat.reduceSub, z0_t, z1_f, z1_t, true_or, or_true,  if_true, if_false, Bool.false_eq_true, aft_v, aft_n, aftN_v, aftN_n, qwV_s, qwV_0, bI_if, bI_ok, bI_ok0, bI_ok1, true_and, f_9_3 h hi]
  unfold bI
  by_cases q : c 9 i 3 < s <;> simp [q]
theorem s49_l (h : Lay x l n) (hi : i < n.2.2.2) (hz : c 9 i 2 = nI z) (hz8 : z ≤ 8) {pl s : Int32} : ∀ (d j : Nat), j + d = z → WP x 49 2 [some (.ref (l.1 9 i)), some (.int pl), some (.int s), some (.int (nI j))] [] (Wo x l n c) mc ms post = post (.inl (some (.int (bI (anyB (fun q => hs s (nI q) && decide (c 10 i q = pl)) d j))))) (Wo x l n c)
  | 0, j, hj => by
    simp only [t_49_2, t_49_3, t_49_4, t_49_7, t_49_35, t_49_36, f_9_2 h hi, hz, if_pos (le_t (show z ≤ j by omega) (show j < 2 ^ 31 by omega)), decide_true, decide_false, Bool.not_true, Bool.not_false, Nat.reduceLeDiff, Nat.reduceSub, z0_t, z1_f, z1_t, true_or, or_true,  if_true, if_false, Bool.false_eq_true, aft_v, aft_n, aftN_v, aftN_n, qwV_s, qwV_0, bI_if, bI_ok, bI_ok0, bI_ok1, true_and]
    rfl
  | d + 1, j, hj => by
    have ih := s49_l h hi hz hz8 (pl := pl) (s := s) d (j + 1) (by omega)
    rw [t_49_2]
    simp only [t_49_0, t_49_1, t_49_3, t_49_4, t_49_7, t_49_10, t_49_11, t_49_12, t_49_15, t_49_18, t_49_19, t_49_20, t_49_23, t_49_24, t_49_27, t_49_28, t_49_29, t_49_32, t_49_35, t_49_36, f_9_2 h hi, hz, if_neg (le_f (show j < z by omega) (show z < 2 ^ 31 by omega)), decide_true, decide_false, Bool.not_true, Bool.not_false, Nat.reduceLeDiff, Nat.reduceSub, z0_t, z1_f, z1_t, true_or, or_true,  if_true, if_false, Bool.false_eq_true, aft_v, aft_n, aftN_v, aftN_n, qwV_s, qwV_0, bI_if, bI_ok, bI_ok0, bI_ok1, true_and, s102, s41 h hi, k_9 h hi, plc_in (show j < z by omega) hz8, nI_add, ih]
    rw [anyB_s]
    cases hs s (nI j) <;> by_cases q : c 10 i j = pl <;> simp [q, bI_t]
theorem s49 (h : Lay x l n) (hi : i < n.2.2.2) (hz : c 9 i 2 = nI z) (hz8 : z ≤ 8) {pl s : Int32} : CL x 49 [.ref (l.1 9 i), .int pl, .int s] (Wo x l n c) K = K (.inl (some (.int (bI (anyB (fun q => hs s (nI q) && decide (c 10 i q = pl)) z 0))))) (Wo x l n c) := by
  rw [CL_49]
  simp only [t_49_0, t_49_1, s49_l h hi hz hz8 z 0 (Nat.zero_add z)]
theorem s46 (h : Lay x l n) (hi : i < n.2.2.2) : CL x 46 [.ref (l.1 9 i)] (Wo x l n c) K = K (.inl (some (.int (nI 1 <<< (c 9 i 2 &&& 31) - nI 1)))) (Wo x l n c) := by
  rw [CL_46]
  simp only [t_46_0, t_46_1, t_46_2, t_46_5, t_46_6, t_46_7, t_46_8, decide_true, decide_false, Bool.not_true, Bool.not_false, Nat.reduceLeDiff, Nat.reduceSub, z0_t, z1_f, z1_t, true_or, or_true,  if_true, if_false, Bool.false_eq_true, aft_v, aft_n, aftN_v, aftN_n, qwV_s, qwV_0, bI_if, bI_ok, bI_ok0, bI_ok1, true_and, f_9_2 h hi]
/-- a row's cell, where there is one -/
def rdA (m : Nat) (f : Nat → Int32) (d : Int32) (p : Int32) : Int32 := if p < 0 then d else if nI m ≤ p then d else f p.toNatClampNeg
theorem rdA_in {m j : Nat} {f : Nat → Int32} {d : Int32} (h : j < m) (hm : m < 2 ^ 31) : rdA m f d (nI j) = f j := by
  unfold rdA
  rw [if_neg (nI_pos (by omega)), if_neg (le_f h hm), nI_clamp (by omega)]
theorem s47 (h : Lay x l n) (hi : i < n.2.2.2) {p : Int32} : CL x 47 [.ref (l.1 9 i), .int p] (Wo x l n c) K = K (.inl (some (.int (rdA 4 (c 11 i) (nI 0) p)))) (Wo x l n c) := by
  rw [CL_47]
  simp only [t_47_0, t_47_1, t_47_4, t_47_5, t_47_6, t_47_9, t_47_10, t_47_13, t_47_14, t_47_17, t_47_18, t_47_19, t_47_22, t_47_23, decide_true, decide_false, Bool.not_true, Bool.not_false, Nat.reduceLeDiff, Nat.reduceSub, z0_t, z1_f, z1_t, true_or, or_true,  if_true, if_false, Bool.false_eq_true, aft_v, aft_n, aftN_v, aftN_n, qwV_s, qwV_0, bI_if, bI_ok, bI_ok0, bI_ok1, true_and, f_9_1 h hi, rA_11 h hi, rL_11 h hi]
  unfold rdA
  rcases pk_ix p (n := 4) (by decide) with q | q | ⟨j, hj, rfl⟩
  · simp only [if_pos q]
  · by_cases q2 : p < 0
    · simp only [if_pos q2]
    · simp only [if_pos q, if_neg q2]
  · simp only [vp_in_nI hj (by decide), true_and]
    split
    · rfl
    · split <;> rfl
theorem s48 (h : Lay x l n) (hi : i < n.2.2.2) {j : Nat} (hj : j < 4) {v : Int32} : CL x 48 [.ref (l.1 9 i), .int (nI j), .int v] (Wo x l n c) K = K (.inl none) (Wo x l n (cu c 11 i (upd (c 11 i) j v))) := by
  rw [CL_48]
  simp only [t_48_0, t_48_1, t_48_4, t_48_5, t_48_6, t_48_9, t_48_10, t_48_13, t_48_14, t_48_17, t_48_18, t_48_19, t_48_20, decide_true, decide_false, Bool.not_true, Bool.not_false, Nat.reduceLeDiff, Nat.reduceSub, z0_t, z1_f, z1_t, true_or, or_true,  if_true, if_false, Bool.false_eq_true, aft_v, aft_n, aftN_v, aftN_n, qwV_s, qwV_0, bI_if, bI_ok, bI_ok0, bI_ok1, true_and, f_9_1 h hi, rA_11 h hi, rI_11 h hi, if_neg (nI_pos (show j < 2 ^ 31 by omega)), if_neg (le_f hj (by decide)), vp_in_nI hj (by decide), nI_clamp (show j < 2 ^ 31 by omega), p_11 h hi]
theorem s42 (h : Lay x l n) (hi : i < n.2.2.2) (hz : c 9 i 2 = nI z) (hz8 : z < 8) {v : Int32} : CL x 42 [.ref (l.1 9 i), .int v] (Wo x l n c) K = K (.inl none) (Wo x l n (cu (cu c 10 i (upd (c 10 i) z v)) 9 i (upd (c 9 i) 2 (nI (z + 1))))) := by
  rw [CL_42]
  have h1 : cu c 10 i (upd (c 10 i) z v) 9 i = c 9 i := cu_k (by decide)
  simp only [t_42_0, t_42_1, t_42_4, t_42_7, t_42_8, t_42_11, t_42_12, t_42_15, t_42_16, t_42_19, t_42_20, t_42_23, t_42_24, t_42_27, t_42_28, t_42_29, t_42_30, t_42_31, t_42_34, t_42_35, t_42_36, t_42_39, decide_true, decide_false, Bool.not_true, Bool.not_false, Nat.reduceLeDiff, Nat.reduceSub, z0_t, z1_f, z1_t, true_or, or_true,  if_true, if_false, Bool.false_eq_true, aft_v, aft_n, aftN_v, aftN_n, qwV_s, qwV_0, bI_if, bI_ok, bI_ok0, bI_ok1, true_and, f_9_2 h hi, f_9_0 h hi, rA_10 h hi, rI_10 h hi, hz, if_neg (nI_pos (show z < 2 ^ 31 by omega)), if_neg (le_f hz8 (by decide)), vp_in_nI hz8 (by decide), nI_clamp (show z < 2 ^ 31 by omega), p_10 h hi, o_9 h hi, h1, List.length_cons, List.length_nil, List.set_cons_zero, List.set_cons_succ, Nat.reduceAdd, Nat.reduceLT, nI_add]
  have h2 := p_9_2 h hi (c := cu c 10 i (upd (c 10 i) z v)) (v := nI (z + 1))
  rw [h1] at h2
  rw [h2]
theorem s43 (h : Lay x l n) (hi : i < n.2.2.2) (hz : c 9 i 2 = nI z) (hz8 : z ≤ 8) {j : Nat} (hj : j < z) {v : Int32} : CL x 43 [.ref (l.1 9 i), .int (nI j), .int v] (Wo x l n c) K = K (.inl none) (Wo x l n (cu c 10 i (upd (c 10 i) j v))) := by
  rw [CL_43]
  simp only [t_43_0, t_43_1, t_43_4, t_43_5, t_43_6, t_43_9, t_43_12, t_43_13, t_43_14, t_43_17, t_43_18, t_43_21, t_43_22, t_43_25, t_43_26, t_43_27, t_43_28, decide_true, decide_false, Bool.not_true, Bool.not_false, Nat.reduceLeDiff, Nat.reduceSub, z0_t, z1_f, z1_t, true_or, or_true,  if_true, if_false, Bool.false_eq_true, aft_v, aft_n, aftN_v, aftN_n, qwV_s, qwV_0, bI_if, bI_ok, bI_ok0, bI_ok1, true_and, f_9_0 h hi, f_9_2 h hi, rA_10 h hi, rI_10 h hi, hz, if_neg (nI_pos (show j < 2 ^ 31 by omega)), if_neg (le_f hj (show z < 2 ^ 31 by omega)), if_neg (le_f (show j < 8 by omega) (by decide)), vp_in_nI (show j < 8 by omega) (by decide), nI_clamp (show j < 2 ^ 31 by omega), p_10 h hi]
theorem s44 (h : Lay x l n) (hi : i < n.2.2.2) {v : Int32} : CL x 44 [.ref (l.1 9 i), .int v] (Wo x l n c) K = K (.inl none) (Wo x l n (cu c 9 i (upd (c 9 i) 3 v))) := by
  rw [CL_44]
  simp only [t_44_0, t_44_1, t_44_2, t_44_5, decide_true, decide_false, Bool.not_true, Bool.not_false, Nat.reduceLeDiff, Nat.reduceSub, z0_t, z1_f, z1_t, true_or, or_true,  if_true, if_false, Bool.false_eq_true, aft_v, aft_n, aftN_v, aftN_n, qwV_s, qwV_0, bI_if, bI_ok, bI_ok0, bI_ok1, true_and, o_9 h hi, List.length_cons, List.length_nil, List.set_cons_zero, List.set_cons_succ, Nat.reduceAdd, Nat.reduceLT, p_9_3 h hi]
end
