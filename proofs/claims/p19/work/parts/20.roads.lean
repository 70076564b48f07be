/-! the roads -/
abbrev Fn2 : Type := Nat → Nat → Int32
def szO (A : Fn2) (i : Nat) : Nat := (A i 2).toNatClampNeg
def hpA (A B : Fn2) (r : Nat) (pl S : Int32) : Bool := anyB (fun q => hs S (nI q) && decide (B r q = pl)) (szO A r) 0
def allP (A : Fn2) (r : Nat) : Int32 := nI 1 <<< (A r 2 &&& 31) - nI 1
def metC (A B : Fn2) (N i : Nat) (pl s : Int32) : Bool := anyB (fun r => !decide (r = i) && (!decide (A r 3 < s) && hpA A B r pl (allP A r))) N 0
def gF (bit met : Nat → Bool) (tri : Nat → Int32) : Nat → Nat → Int32 → Int32 → Int32
  | 0, _, _, g => g
  | d + 1, p, least, g => if (bit p && (!decide (least ≤ tri p) && !met p)) = true then gF bit met tri d (p + 1) (tri p) (nI p) else gF bit met tri d (p + 1) least g
theorem gF_0 {bit met : Nat → Bool} {tri : Nat → Int32} {p : Nat} {a g : Int32} : gF bit met tri 0 p a g = g := rfl
theorem gF_s {bit met : Nat → Bool} {tri : Nat → Int32} {d p : Nat} {a g : Int32} : gF bit met tri (d + 1) p a g = if (bit p && (!decide (a ≤ tri p) && !met p)) = true then gF bit met tri d (p + 1) (tri p) (nI p) else gF bit met tri d (p + 1) a g := rfl
def triS (f : Nat → Int32) (S : Int32) (z p : Nat) : Int32 := triP f p (ahd S (p - 1)) (bhd S (z - 1 - (p + 1)) (p + 1))
def goesC (A B : Fn2) (N i : Nat) (S s : Int32) : Int32 := gF (fun p => hs S (nI p)) (fun p => metC A B N i (B i p) s) (triS (B i) S (szO A i)) (szO A i - 1 - 1) 1 (nI 20 * s) (-1)
def offB (S g : Int32) : Int32 := S &&& ((nI 1 <<< (g &&& 31)) ^^^ (-1))
def lF (g : Int32 → Int32) : Nat → Int32 → Int32
  | 0, S => S
  | d + 1, S => if g S = -1 then S else lF g d (offB S (g S))
theorem lF_0 {g : Int32 → Int32} {S : Int32} : lF g 0 S = S := rfl
theorem lF_s {g : Int32 → Int32} {d : Nat} {S : Int32} : lF g (d + 1) S = if g S = -1 then S else lF g d (offB S (g S)) := rfl
def leftC (A B : Fn2) (N i : Nat) (s : Int32) : Int32 := if A i 3 < s then nI 0 else lF (fun S => goesC A B N i S s) 8 (allP A i)
def shrC (A B : Fn2) (a : Nat) (S : Int32) (b : Nat) (T : Int32) : Bool := anyB (fun p => hs S (nI p) && hpA A B b (B a p) T) (szO A a) 0
def prF (f : Nat → Nat → Bool) (N : Nat) : Nat → Nat → Int32 → Int32
  | 0, _, acc => acc
  | d + 1, a, acc => prF f N d (a + 1) (cntI (f a) (N - (a + 1)) (a + 1) acc)
theorem prF_0 {f : Nat → Nat → Bool} {N a : Nat} {acc : Int32} : prF f N 0 a acc = acc := rfl
theorem prF_s {f : Nat → Nat → Bool} {N d a : Nat} {acc : Int32} : prF f N (d + 1) a acc = prF f N d (a + 1) (cntI (f a) (N - (a + 1)) (a + 1) acc) := rfl
/-- sizes fit -/
def SzA (N : Nat) (A : Fn2) : Prop := ∀ i, i < N → A i 2 = nI (szO A i) ∧ szO A i ≤ 8
def SzB (N : Nat) (A : Fn2) : Prop := ∀ i, i < N → 2 ≤ szO A i
def cw (c : Cc) (k : Nat) (F : Fn2) : Cc := fun k' i' => if k' = k then F i' else c k' i'
theorem cw_s {c : Cc} {k : Nat} {F : Fn2} : cw c k F k = F := by
  funext i'
  exact if_pos rfl
theorem cw_n {c : Cc} {k k' : Nat} {F : Fn2} (h : k' ≠ k) : cw c k F k' = c k' := by
  funext i'
  exact if_neg h
theorem cw_id {c : Cc} {k : Nat} : cw c k (c k) = c := by
  funext k' i'
  unfold cw
  split
  · next h => rw [h]
  · rfl
theorem cw_cu {c : Cc} {k i : Nat} {F : Fn2} {f : Nat → Int32} : cu (cw c k F) k i f = cw c k (fun i' => if i' = i then f else F i') := by
  funext k' i'
  unfold cu cw
  by_cases h1 : k' = k
  · simp [h1]
  · simp [h1]
section
variable {x : Cx} {l : Ly} {n : Nn} {c : Cc} {i q q' z mc ms : Nat} {K post : Po}
theorem s6r (h : Lay x l n) : CL x 6 [.ref (l.1 2 0)] (Wo x l n c) K = K (.inl (some (.int (nI n.1)))) (Wo x l n c) := s6 (g_2 h)
theorem s8r (h : Lay x l n) (hN : n.1 ≤ 8 ∧ n.1 ≤ n.2.2.2) {j : Nat} (hj : j < n.1) : CL x 8 [.ref (l.1 2 0), .int (nI j)] (Wo x l n c) K = K (.inl (some (.ref (l.1 9 j)))) (Wo x l n c) := by
  have h0 : n.1 ≠ 0 := by omega
  have h1 := g_2 h (c := c)
  rw [if_neg h0] at h1
  exact s8 h1 (g_3 h h0) (if_pos hj) hj (by omega) (by decide)
theorem s60 (h : Lay x l n) : CL x 60 [.ref (l.1 1 0)] (Wo x l n c) K = K (.inl (some (.int (nI n.1)))) (Wo x l n c) := by
  rw [CL_60]
  simp only [t_60_0, t_60_1, t_60_4, t_60_7, decide_true, decide_false, Bool.not_true, Bool.not_false, Nat.reduceLeDiff, Nat.reduceSub, z0_t, z1_f, z1_t, true_or, or_true,  if_true, if_false, Bool.false_eq_true, aft_v, aft_n, aftN_v, aftN_n, qwV_s, qwV_0, bI_if, bI_ok, bI_ok0, bI_ok1, true_and, f_1_0 h, k_0 h, k_1 h, k_2 h, k_4 h, k_5 h, k_7 h, s6r h]
theorem s61 (h : Lay x l n) (hN : n.1 ≤ 8 ∧ n.1 ≤ n.2.2.2) {j : Nat} (hj : j < n.1) : CL x 61 [.ref (l.1 1 0), .int (nI j)] (Wo x l n c) K = K (.inl (some (.ref (l.1 9 j)))) (Wo x l n c) := by
  rw [CL_61]
  simp only [t_61_0, t_61_1, t_61_4, t_61_5, t_61_8, t_61_11, decide_true, decide_false, Bool.not_true, Bool.not_false, Nat.reduceLeDiff, Nat.reduceSub, z0_t, z1_f, z1_t, true_or, or_true,  if_true, if_false, Bool.false_eq_true, aft_v, aft_n, aftN_v, aftN_n, qwV_s, qwV_0, bI_if, bI_ok, bI_ok0, bI_ok1, true_and, f_1_0 h, k_2 h, s8r h hN hj, k_9 h (show j < n.2.2.2 by omega)]
theorem s66_l (h : Lay x l n) (hN : n.1 ≤ 8 ∧ n.1 ≤ n.2.2.2) (hA : SzA n.2.2.2 (c 9)) (hi : i < n.2.2.2) {pl s : Int32} {l2 : Option Value} : ∀ (d j : Nat) (l6 : Option Value), j + d = n.1 → WP x 66 10 [some (.ref (l.1 1 0)), some (.ref (l.1 9 i)), l2, some (.int s), some (.int pl), some (.int (nI j)), l6] [] (Wo x l n c) mc ms post = post (.inl (some (.int (bI (anyB (fun r => !decide (r = i) && (!decide (c 9 r 3 < s) && hpA (c 9) (c 10) r pl (allP (c 9) r))) d j))))) (Wo x l n c)
  | 0, j, l6, hj => by
    rw [t_66_10]
    simp only [t_66_12, t_66_13, t_66_16, t_66_19, t_66_22, t_66_23, t_66_26, t_66_28, t_66_31, t_66_34, t_66_36, t_66_38, t_66_39, t_66_42, t_66_44, t_66_45, t_66_48, t_66_51, t_66_53, t_66_55, t_66_57, t_66_60, t_66_63, t_66_66, t_66_67, t_66_68, t_66_71, t_66_74, t_66_75, decide_true, decide_false, Bool.not_true, Bool.not_false, Nat.reduceLeDiff, Nat.reduceSub, z0_t, z1_f, z1_t, true_or, or_true,  if_true, if_false, Bool.false_eq_true, aft_v, aft_n, aftN_v, aftN_n, qwV_s, qwV_0, bI_if, bI_ok, bI_ok0, bI_ok1, true_and, f_1_0 h, k_0 h, k_1 h, k_2 h, k_4 h, k_5 h, k_7 h, s6r h, if_pos (le_t (show n.1 ≤ j by omega) (show j < 2 ^ 31 by omega)), anyB_0, bI_f]
  | d + 1, j, l6, hj => by
    have ih := fun l6 => s66_l h hN hA hi (pl := pl) (s := s) (l2 := l2) d (j + 1) l6 (by omega)
    have hj1 : j < n.2.2.2 := by omega
    rw [t_66_10]
    simp only [t_66_12, t_66_13, t_66_16, t_66_19, t_66_22, t_66_23, t_66_26, t_66_28, t_66_31, t_66_34, t_66_36, t_66_38, t_66_39, t_66_42, t_66_44, t_66_45, t_66_48, t_66_51, t_66_53, t_66_55, t_66_57, t_66_60, t_66_63, t_66_66, t_66_67, t_66_68, t_66_71, t_66_74, t_66_75, decide_true, decide_false, Bool.not_true, Bool.not_false, Nat.reduceLeDiff, Nat.reduceSub, z0_t, z1_f, z1_t, true_or, or_true,  if_true, if_false, Bool.false_eq_true, aft_v, aft_n, aftN_v, aftN_n, qwV_s, qwV_0, bI_if, bI_ok, bI_ok0, bI_ok1, true_and, f_1_0 h, k_0 h, k_1 h, k_2 h, k_4 h, k_5 h, k_7 h, s6r h, s8r h hN (show j < n.1 by omega), if_neg (le_f (show j < n.1 by omega) (show n.1 < 2 ^ 31 by omega)), k_9 h hj1, ad_eq h (show j < bd n 9 from hj1) (show i < bd n 9 from hi), s45 h hj1, s46 h hj1, s49 h hj1 (hA j hj1).1 (hA j hj1).2, nI_add, ih]
    rw [anyB_s]
    unfold hpA allP
    by_cases h1 : j = i <;> by_cases h2 : c 9 j 3 < s <;> cases anyB (fun q => hs (nI 1 <<< (c 9 j 2 &&& 31) - nI 1) (nI q) && decide (c 10 j q = pl)) (szO (c 9) j) 0 <;> simp [h1, h2, bI_t]
theorem s66 (h : Lay x l n) (hN : n.1 ≤ 8 ∧ n.1 ≤ n.2.2.2) (hA : SzA n.2.2.2 (c 9)) (hi : i < n.2.2.2) {p : Nat} (hp : p < szO (c 9) i) {s : Int32} : CL x 66 [.ref (l.1 1 0), .ref (l.1 9 i), .int (nI p), .int s] (Wo x l n c) K = K (.inl (some (.int (bI (metC (c 9) (c 10) n.1 i (c 10 i p) s))))) (Wo x l n c) := by
  rw [CL_66]
  have e := (hA i hi).1
  simp only [t_66_0, t_66_1, t_66_2, t_66_0, t_66_1, t_66_2, t_66_5, t_66_7, t_66_8, decide_true, decide_false, Bool.not_true, Bool.not_false, Nat.reduceLeDiff, Nat.reduceSub, z0_t, z1_f, z1_t, true_or, or_true,  if_true, if_false, Bool.false_eq_true, aft_v, aft_n, aftN_v, aftN_n, qwV_s, qwV_0, bI_if, bI_ok, bI_ok0, bI_ok1, true_and, k_9 h hi, s41 h hi, e, plc_in hp (hA i hi).2, s66_l h hN hA hi n.1 0 _ (Nat.zero_add n.1), metC]
theorem s65_l (h : Lay x l n) (hN : n.1 ≤ 8 ∧ n.1 ≤ n.2.2.2) (hA : SzA n.2.2.2 (c 9)) (hi : i < n.2.2.2) (hz2 : 2 ≤ szO (c 9) i) {S s : Int32} : ∀ (d p : Nat) (a g : Int32) (l7 : Option Value), p + d = szO (c 9) i - 1 → 0 < p → WP x 65 12 [some (.ref (l.1 1 0)), some (.ref (l.1 9 i)), some (.int S), some (.int s), some (.int a), some (.int g), some (.int (nI p)), l7] [] (Wo x l n c) mc ms post = post (.inl (some (.int (gF (fun p => hs S (nI p)) (fun p => metC (c 9) (c 10) n.1 i (c 10 i p) s) (triS (c 10 i) S (szO (c 9) i)) d p a g)))) (Wo x l n c)
  | 0, p, a, g, l7, hj, hp => by
    have hz8 := (hA i hi).2
    have e := (hA i hi).1
    rw [t_65_12]
    simp only [t_65_14, t_65_15, t_65_18, t_65_19, t_65_20, t_65_23, t_65_24, t_65_26, t_65_29, t_65_32, t_65_33, t_65_35, t_65_36, t_65_39, t_65_41, t_65_43, t_65_45, t_65_48, t_65_49, t_65_50, t_65_52, t_65_53, t_65_56, t_65_59, t_65_61, t_65_63, t_65_65, t_65_67, t_65_70, t_65_73, t_65_75, decide_true, decide_false, Bool.not_true, Bool.not_false, Nat.reduceLeDiff, Nat.reduceSub, z0_t, z1_f, z1_t, true_or, or_true,  if_true, if_false, Bool.false_eq_true, aft_v, aft_n, aftN_v, aftN_n, qwV_s, qwV_0, bI_if, bI_ok, bI_ok0, bI_ok1, true_and, k_9 h hi, s40 h hi, e, pk_sub (show 1 ≤ szO (c 9) i by omega), if_pos (le_t (show szO (c 9) i - 1 ≤ p by omega) (show p < 2 ^ 31 by omega)), gF_0]
  | d + 1, p, a, g, l7, hj, hp => by
    have hz8 := (hA i hi).2
    have e := (hA i hi).1
    have ih := fun a g l7 => s65_l h hN hA hi hz2 (S := S) (s := s) d (p + 1) a g l7 (by omega) (by omega)
    rw [t_65_12]
    simp only [t_65_14, t_65_15, t_65_18, t_65_19, t_65_20, t_65_23, t_65_24, t_65_26, t_65_29, t_65_32, t_65_33, t_65_35, t_65_36, t_65_39, t_65_41, t_65_43, t_65_45, t_65_48, t_65_49, t_65_50, t_65_52, t_65_53, t_65_56, t_65_59, t_65_61, t_65_63, t_65_65, t_65_67, t_65_70, t_65_73, t_65_75, decide_true, decide_false, Bool.not_true, Bool.not_false, Nat.reduceLeDiff, Nat.reduceSub, z0_t, z1_f, z1_t, true_or, or_true,  if_true, if_false, Bool.false_eq_true, aft_v, aft_n, aftN_v, aftN_n, qwV_s, qwV_0, bI_if, bI_ok, bI_ok0, bI_ok1, true_and, k_9 h hi, s40 h hi, e, pk_sub (show 1 ≤ szO (c 9) i by omega), if_neg (le_f (show p < szO (c 9) i - 1 by omega) (show szO (c 9) i - 1 < 2 ^ 31 by omega)), s102, s51 h hi e hz8 hp (show p + 1 < szO (c 9) i by omega), k_0 h, k_1 h, k_2 h, k_4 h, k_5 h, k_7 h, s66 h hN hA hi (show p < szO (c 9) i by omega), nI_add, ih]
    rw [gF_s]
    unfold triS
    cases hs S (nI p) <;> by_cases h2 : a ≤ triP (c 10 i) p (ahd S (p - 1)) (bhd S (szO (c 9) i - 1 - (p + 1)) (p + 1)) <;> cases metC (c 9) (c 10) n.1 i (c 10 i p) s <;> simp [h2]
theorem s65 (h : Lay x l n) (hN : n.1 ≤ 8 ∧ n.1 ≤ n.2.2.2) (hA : SzA n.2.2.2 (c 9)) (hi : i < n.2.2.2) (hz2 : 2 ≤ szO (c 9) i) {S s : Int32} : CL x 65 [.ref (l.1 1 0), .ref (l.1 9 i), .int S, .int s] (Wo x l n c) K = K (.inl (some (.int (goesC (c 9) (c 10) n.1 i S s)))) (Wo x l n c) := by
  rw [CL_65]
  simp only [t_65_0, t_65_2, t_65_3, t_65_4, t_65_6, t_65_7, t_65_9, t_65_10, decide_true, decide_false, Bool.not_true, Bool.not_false, Nat.reduceLeDiff, Nat.reduceSub, z0_t, z1_f, z1_t, true_or, or_true,  if_true, if_false, Bool.false_eq_true, aft_v, aft_n, aftN_v, aftN_n, qwV_s, qwV_0, bI_if, bI_ok, bI_ok0, bI_ok1, true_and, s65_l h hN hA hi hz2 (szO (c 9) i - 1 - 1) 1 _ _ _ (by omega) (by decide), goesC]
theorem s64_l (h : Lay x l n) (hN : n.1 ≤ 8 ∧ n.1 ≤ n.2.2.2) (hA : SzA n.2.2.2 (c 9)) (hi : i < n.2.2.2) (hz2 : 2 ≤ szO (c 9) i) {s : Int32} : ∀ (d j : Nat) (S : Int32) (l5 : Option Value), j + d = 8 → WP x 64 18 [some (.ref (l.1 1 0)), some (.ref (l.1 9 i)), some (.int s), some (.int S), some (.int (nI j)), l5] [] (Wo x l n c) mc ms post = post (.inl (some (.int (lF (fun S => goesC (c 9) (c 10) n.1 i S s) d S)))) (Wo x l n c)
  | 0, j, S, l5, hj => by
    rw [t_64_18]
    simp only [t_64_20, t_64_22, t_64_25, t_64_26, t_64_27, t_64_28, t_64_29, t_64_32, t_64_34, t_64_36, t_64_37, t_64_40, t_64_41, t_64_42, t_64_43, t_64_44, t_64_46, t_64_47, t_64_48, t_64_49, t_64_50, t_64_51, t_64_54, t_64_57, t_64_58, decide_true, decide_false, Bool.not_true, Bool.not_false, Nat.reduceLeDiff, Nat.reduceSub, z0_t, z1_f, z1_t, true_or, or_true,  if_true, if_false, Bool.false_eq_true, aft_v, aft_n, aftN_v, aftN_n, qwV_s, qwV_0, bI_if, bI_ok, bI_ok0, bI_ok1, true_and, if_pos (le_t (show 8 ≤ j by omega) (show j < 2 ^ 31 by omega)), lF_0]
  | d + 1, j, S, l5, hj => by
    have ih := fun S l5 => s64_l h hN hA hi hz2 (s := s) d (j + 1) S l5 (by omega)
    rw [t_64_18]
    simp only [t_64_20, t_64_22, t_64_25, t_64_26, t_64_27, t_64_28, t_64_29, t_64_32, t_64_34, t_64_36, t_64_37, t_64_40, t_64_41, t_64_42, t_64_43, t_64_44, t_64_46, t_64_47, t_64_48, t_64_49, t_64_50, t_64_51, t_64_54, t_64_57, t_64_58, decide_true, decide_false, Bool.not_true, Bool.not_false, Nat.reduceLeDiff, Nat.reduceSub, z0_t, z1_f, z1_t, true_or, or_true,  if_true, if_false, Bool.false_eq_true, aft_v, aft_n, aftN_v, aftN_n, qwV_s, qwV_0, bI_if, bI_ok, bI_ok0, bI_ok1, true_and, if_neg (le_f (show j < 8 by omega) (show 8 < 2 ^ 31 by decide)), k_0 h, k_1 h, k_2 h, k_4 h, k_5 h, k_7 h, s65 h hN hA hi hz2, nI_add, ih]
    rw [lF_s]
    unfold offB
    by_cases h2 : goesC (c 9) (c 10) n.1 i S s = -1 <;> simp only [h2, if_true, if_false]
theorem s64 (h : Lay x l n) (hN : n.1 ≤ 8 ∧ n.1 ≤ n.2.2.2) (hA : SzA n.2.2.2 (c 9)) (hi : i < n.2.2.2) (hz2 : 2 ≤ szO (c 9) i) {s : Int32} : CL x 64 [.ref (l.1 1 0), .ref (l.1 9 i), .int s] (Wo x l n c) K = K (.inl (some (.int (leftC (c 9) (c 10) n.1 i s)))) (Wo x l n c) := by
  rw [CL_64]
  simp only [t_64_0, t_64_1, t_64_2, t_64_5, t_64_8, t_64_9, t_64_10, t_64_11, t_64_14, t_64_15, t_64_16, decide_true, decide_false, Bool.not_true, Bool.not_false, Nat.reduceLeDiff, Nat.reduceSub, z0_t, z1_f, z1_t, true_or, or_true,  if_true, if_false, Bool.false_eq_true, aft_v, aft_n, aftN_v, aftN_n, qwV_s, qwV_0, bI_if, bI_ok, bI_ok0, bI_ok1, true_and, k_9 h hi, s45 h hi, s46 h hi, s64_l h hN hA hi hz2 8 0 _ _ rfl]
  unfold leftC allP
  by_cases h1 : c 9 i 3 < s <;> simp [h1]
def leftR (A B : Fn2) (N r : Nat) : Nat → Int32 := fun j => leftC A B N r (nI j)
theorem s63_l (h : Lay x l n) (hN : n.1 ≤ 8 ∧ n.1 ≤ n.2.2.2) (hA : SzA n.2.2.2 (c 9)) (hB : SzB n.1 (c 9)) {r : Nat} (hr : r < n.1) : ∀ (d j : Nat), j + d = 4 → WP x 63 27 [some (.ref (l.1 1 0)), some (.int (nI r)), some (.ref (l.1 9 r)), some (.int (nI j))] [] (Wo x l n (cu c 11 r (cp j (c 11 r) (leftR (c 9) (c 10) n.1 r)))) mc ms post = WP x 63 27 [some (.ref (l.1 1 0)), some (.int (nI r)), some (.ref (l.1 9 r)), some (.int (nI 4))] [] (Wo x l n (cu c 11 r (cp 4 (c 11 r) (leftR (c 9) (c 10) n.1 r)))) mc ms post
  | 0, j, hj => by
    rw [show j = 4 by omega]
  | d + 1, j, hj => by
    have ih := s63_l h hN hA hB hr d (j + 1) (by omega)
    have hr1 : r < n.2.2.2 := by omega
    have e9 : ∀ F, cu c 11 r F 9 = c 9 := fun F => by funext i'; exact cu_k (by decide)
    have e10 : ∀ F, cu c 11 r F 10 = c 10 := fun F => by funext i'; exact cu_k (by decide)
    have s64' := fun F K => s64 (x := x) (c := cu c 11 r F) (s := nI j) (K := K) h hN (by rw [e9]; exact hA) hr1 (by rw [e9]; exact hB r hr)
    simp only [e9, e10] at s64'
    rw [← ih, t_63_27]
    simp only [t_63_28, t_63_29, t_63_32, t_63_33, t_63_34, t_63_35, t_63_36, t_63_37, t_63_40, t_63_43, t_63_46, decide_true, decide_false, Bool.not_true, Bool.not_false, Nat.reduceLeDiff, Nat.reduceSub, z0_t, z1_f, z1_t, true_or, or_true,  if_true, if_false, Bool.false_eq_true, aft_v, aft_n, aftN_v, aftN_n, qwV_s, qwV_0, bI_if, bI_ok, bI_ok0, bI_ok1, true_and, if_neg (le_f (show j < 4 by omega) (show 4 < 2 ^ 31 by decide)), s64', k_0 h, k_1 h, k_2 h, k_4 h, k_5 h, k_7 h, k_9 h hr1, s48 h hr1 (show j < 4 by omega), nI_add, cu_s, cu_cu, cp_u (show leftC (c 9) (c 10) n.1 r (nI j) = leftR (c 9) (c 10) n.1 r j from rfl)]
def genR (A B : Fn2) (N : Nat) (L : Fn2) (m : Nat) : Fn2 := fun r => if r < m then cp 4 (L r) (leftR A B N r) else L r
theorem s63_m (h : Lay x l n) (hN : n.1 ≤ 8 ∧ n.1 ≤ n.2.2.2) (hA : SzA n.2.2.2 (c 9)) (hB : SzB n.1 (c 9)) : ∀ (d r : Nat) (l2 l3 : Option Value), r + d = n.1 → WP x 63 2 [some (.ref (l.1 1 0)), some (.int (nI r)), l2, l3] [] (Wo x l n (cw c 11 (genR (c 9) (c 10) n.1 (c 11) r))) mc ms post = post (.inl none) (Wo x l n (cw c 11 (genR (c 9) (c 10) n.1 (c 11) n.1)))
  | 0, r, l2, l3, hj => by
    rw [show r = n.1 by omega, t_63_2]
    simp only [t_63_3, t_63_4, t_63_7, t_63_10, t_63_13, t_63_14, t_63_17, t_63_18, t_63_21, t_63_24, t_63_25, t_63_26, t_63_27, t_63_28, t_63_29, t_63_32, t_63_33, t_63_34, t_63_35, t_63_36, t_63_37, t_63_40, t_63_43, t_63_46, t_63_49, t_63_52, t_63_55, decide_true, decide_false, Bool.not_true, Bool.not_false, Nat.reduceLeDiff, Nat.reduceSub, z0_t, z1_f, z1_t, true_or, or_true,  if_true, if_false, Bool.false_eq_true, aft_v, aft_n, aftN_v, aftN_n, qwV_s, qwV_0, bI_if, bI_ok, bI_ok0, bI_ok1, true_and, f_1_0 h, k_0 h, k_1 h, k_2 h, k_4 h, k_5 h, k_7 h, s6r h, if_pos (le_t (Nat.le_refl n.1) (show n.1 < 2 ^ 31 by omega))]
  | d + 1, r, l2, l3, hj => by
    have ih := fun l2 l3 => s63_m h hN hA hB d (r + 1) l2 l3 (by omega)
    have hr : r < n.1 := by omega
    have e9 : cw c 11 (genR (c 9) (c 10) n.1 (c 11) r) 9 = c 9 := cw_n (by decide)
    have e10 : cw c 11 (genR (c 9) (c 10) n.1 (c 11) r) 10 = c 10 := cw_n (by decide)
    have e11 : cw c 11 (genR (c 9) (c 10) n.1 (c 11) r) 11 r = c 11 r := by rw [cw_s]; exact if_neg (Nat.lt_irrefl r)
    have b := s63_l (x := x) (l := l) (n := n) (c := cw c 11 (genR (c 9) (c 10) n.1 (c 11) r)) (mc := mc) (ms := ms) (post := post) h hN (by rw [e9]; exact hA) (by rw [e9]; exact hB) hr 4 0 rfl
    rw [cp_0, cu_id, e9, e10, e11, cw_cu, show (fun i' => if i' = r then cp 4 (c 11 r) (leftR (c 9) (c 10) n.1 r) else genR (c 9) (c 10) n.1 (c 11) r i') = genR (c 9) (c 10) n.1 (c 11) (r + 1) by
      funext i'
      unfold genR
      by_cases h1 : i' = r
      · rw [if_pos h1, h1, if_pos (Nat.lt_succ_self r)]
      · rw [if_neg h1]
        by_cases h2 : i' < r
        · rw [if_pos h2, if_pos (by omega)]
        · rw [if_neg h2, if_neg (by omega)]] at b
    rw [t_63_2]
    simp only [t_63_3, t_63_4, t_63_7, t_63_10, t_63_13, t_63_14, t_63_17, t_63_18, t_63_21, t_63_24, t_63_25, t_63_26, decide_true, decide_false, Bool.not_true, Bool.not_false, Nat.reduceLeDiff, Nat.reduceSub, z0_t, z1_f, z1_t, true_or, or_true,  if_true, if_false, Bool.false_eq_true, aft_v, aft_n, aftN_v, aftN_n, qwV_s, qwV_0, bI_if, bI_ok, bI_ok0, bI_ok1, true_and, f_1_0 h, k_0 h, k_1 h, k_2 h, k_4 h, k_5 h, k_7 h, s6r h, s8r h hN hr, k_9 h (show r < n.2.2.2 by omega), if_neg (le_f hr (show n.1 < 2 ^ 31 by omega)), b]
    rw [t_63_27]
    simp only [t_63_28, t_63_29, t_63_32, t_63_33, t_63_34, t_63_35, t_63_36, t_63_37, t_63_40, t_63_43, t_63_46, t_63_49, t_63_52, t_63_55, decide_true, decide_false, Bool.not_true, Bool.not_false, Nat.reduceLeDiff, Nat.reduceSub, z0_t, z1_f, z1_t, true_or, or_true,  if_true, if_false, Bool.false_eq_true, aft_v, aft_n, aftN_v, aftN_n, qwV_s, qwV_0, bI_if, bI_ok, bI_ok0, bI_ok1, true_and, if_pos (le_t (Nat.le_refl 4) (show 4 < 2 ^ 31 by decide)), nI_add, ih]
theorem s63 (h : Lay x l n) (hN : n.1 ≤ 8 ∧ n.1 ≤ n.2.2.2) (hA : SzA n.2.2.2 (c 9)) (hB : SzB n.1 (c 9)) : CL x 63 [.ref (l.1 1 0)] (Wo x l n c) K = K (.inl none) (Wo x l n (cw c 11 (genR (c 9) (c 10) n.1 (c 11) n.1))) := by
  rw [CL_63]
  have b := s63_m (x := x) (l := l) (n := n) (c := c) (mc := 0) (ms := 0) (post := K) h hN hA hB n.1 0 none none (Nat.zero_add _)
  rw [show genR (c 9) (c 10) n.1 (c 11) 0 = c 11 by funext r; exact if_neg (Nat.not_lt_zero r), cw_id] at b
  simp only [t_63_0, t_63_1, b]
theorem s69_l (h : Lay x l n) (hA : SzA n.2.2.2 (c 9)) {a b : Nat} (ha : a < n.2.2.2) (hb : b < n.2.2.2) {S T : Int32} : ∀ (d j : Nat), j + d = szO (c 9) a → WP x 69 3 [some (.ref (l.1 9 a)), some (.int S), some (.ref (l.1 9 b)), some (.int T), some (.int (nI j))] [] (Wo x l n c) mc ms post = post (.inl (some (.int (bI (anyB (fun p => hs S (nI p) && hpA (c 9) (c 10) b (c 10 a p) T) d j))))) (Wo x l n c)
  | 0, j, hj => by
    have hz8 := (hA a ha).2
    have e := (hA a ha).1
    rw [t_69_3]
    simp only [t_69_5, t_69_6, t_69_9, t_69_12, t_69_13, t_69_15, t_69_18, t_69_21, t_69_22, t_69_23, t_69_25, t_69_28, t_69_29, t_69_32, t_69_35, t_69_36, t_69_37, t_69_40, t_69_43, t_69_44, decide_true, decide_false, Bool.not_true, Bool.not_false, Nat.reduceLeDiff, Nat.reduceSub, z0_t, z1_f, z1_t, true_or, or_true,  if_true, if_false, Bool.false_eq_true, aft_v, aft_n, aftN_v, aftN_n, qwV_s, qwV_0, bI_if, bI_ok, bI_ok0, bI_ok1, true_and, k_9 h ha, s40 h ha, e, if_pos (le_t (show szO (c 9) a ≤ j by omega) (show j < 2 ^ 31 by omega)), anyB_0, bI_f]
  | d + 1, j, hj => by
    have hz8 := (hA a ha).2
    have e := (hA a ha).1
    have ih := s69_l h hA ha hb (S := S) (T := T) d (j + 1) (by omega)
    rw [t_69_3]
    simp only [t_69_5, t_69_6, t_69_9, t_69_12, t_69_13, t_69_15, t_69_18, t_69_21, t_69_22, t_69_23, t_69_25, t_69_28, t_69_29, t_69_32, t_69_35, t_69_36, t_69_37, t_69_40, t_69_43, t_69_44, decide_true, decide_false, Bool.not_true, Bool.not_false, Nat.reduceLeDiff, Nat.reduceSub, z0_t, z1_f, z1_t, true_or, or_true,  if_true, if_false, Bool.false_eq_true, aft_v, aft_n, aftN_v, aftN_n, qwV_s, qwV_0, bI_if, bI_ok, bI_ok0, bI_ok1, true_and, k_9 h ha, k_9 h hb, s40 h ha, e, if_neg (le_f (show j < szO (c 9) a by omega) (show szO (c 9) a < 2 ^ 31 by omega)), s102, s41 h ha, plc_in (show j < szO (c 9) a by omega) hz8, s49 h hb (hA b hb).1 (hA b hb).2, nI_add, ih]
    rw [anyB_s]
    unfold hpA
    cases hs S (nI j) <;> cases anyB (fun q => hs T (nI q) && decide (c 10 b q = c 10 a j)) (szO (c 9) b) 0 <;> simp [bI_t]
theorem s69 (h : Lay x l n) (hA : SzA n.2.2.2 (c 9)) {a b : Nat} (ha : a < n.2.2.2) (hb : b < n.2.2.2) {S T : Int32} : CL x 69 [.ref (l.1 9 a), .int S, .ref (l.1 9 b), .int T] (Wo x l n c) K = K (.inl (some (.int (bI (shrC (c 9) (c 10) a S b T))))) (Wo x l n c) := by
  rw [CL_69]
  simp only [t_69_0, t_69_1, s69_l h hA ha hb (szO (c 9) a) 0 (Nat.zero_add _), shrC]
theorem s67_m (h : Lay x l n) (hN : n.1 ≤ 8 ∧ n.1 ≤ n.2.2.2) (hA : SzA n.2.2.2 (c 9)) {s : Int32} {a : Nat} (ha : a < n.1) {F : Int32 → Prop} (hR : ∀ acc l5 l6, WP x 67 20 [some (.ref (l.1 1 0)), some (.int s), some (.int acc), some (.int (nI a)), some (.int (nI n.1)), l5, l6] [] (Wo x l n c) mc ms post = F acc) : ∀ (d b : Nat) (acc : Int32) (l5 l6 : Option Value), b + d = n.1 → WP x 67 20 [some (.ref (l.1 1 0)), some (.int s), some (.int acc), some (.int (nI a)), some (.int (nI b)), l5, l6] [] (Wo x l n c) mc ms post = F (cntI (fun b => shrC (c 9) (c 10) a (rdA 4 (c 11 a) (nI 0) s) b (rdA 4 (c 11 b) (nI 0) s)) d b acc)
  | 0, b, acc, l5, l6, hj => by
    rw [show b = n.1 by omega, hR, cntI_0]
  | d + 1, b, acc, l5, l6, hj => by
    have ih := fun acc l5 l6 => s67_m h hN hA ha hR d (b + 1) acc l5 l6 (by omega)
    have hb : b < n.1 := by omega
    have ha1 : a < n.2.2.2 := by omega
    have hb1 : b < n.2.2.2 := by omega
    rw [cntI_s, t_67_20]
    simp only [t_67_22, t_67_23, t_67_26, t_67_29, t_67_32, t_67_33, t_67_36, t_67_37, t_67_40, t_67_43, t_67_45, t_67_46, t_67_49, t_67_51, t_67_54, t_67_57, t_67_59, t_67_61, t_67_63, t_67_64, t_67_67, t_67_69, t_67_71, t_67_72, t_67_75, t_67_78, t_67_81, t_67_84, t_67_87, decide_true, decide_false, Bool.not_true, Bool.not_false, Nat.reduceLeDiff, Nat.reduceSub, z0_t, z1_f, z1_t, true_or, or_true,  if_true, if_false, Bool.false_eq_true, aft_v, aft_n, aftN_v, aftN_n, qwV_s, qwV_0, bI_if, bI_ok, bI_ok0, bI_ok1, true_and, k_0 h, k_1 h, k_2 h, k_4 h, k_5 h, k_7 h, f_1_0 h, s6r h, s8r h hN ha, s8r h hN hb, k_9 h ha1, k_9 h hb1, if_neg (le_f hb (show n.1 < 2 ^ 31 by omega)), s47 h ha1, s47 h hb1, s69 h hA ha1 hb1, nI_add, ih]
    cases shrC (c 9) (c 10) a (rdA 4 (c 11 a) (nI 0) s) b (rdA 4 (c 11 b) (nI 0) s) <;> simp
theorem s67_l (h : Lay x l n) (hN : n.1 ≤ 8 ∧ n.1 ≤ n.2.2.2) (hA : SzA n.2.2.2 (c 9)) {s : Int32} : ∀ (d a : Nat) (acc : Int32) (l4 l5 l6 : Option Value), a + d = n.1 → WP x 67 4 [some (.ref (l.1 1 0)), some (.int s), some (.int acc), some (.int (nI a)), l4, l5, l6] [] (Wo x l n c) mc ms post = post (.inl (some (.int (prF (fun a b => shrC (c 9) (c 10) a (rdA 4 (c 11 a) (nI 0) s) b (rdA 4 (c 11 b) (nI 0) s)) n.1 d a acc)))) (Wo x l n c)
  | 0, a, acc, l4, l5, l6, hj => by
    rw [t_67_4]
    simp only [t_67_5, t_67_6, t_67_9, t_67_12, t_67_15, t_67_16, t_67_17, t_67_18, t_67_20, t_67_22, t_67_23, t_67_26, t_67_29, t_67_32, t_67_33, t_67_36, t_67_37, t_67_40, t_67_43, t_67_45, t_67_46, t_67_49, t_67_51, t_67_54, t_67_57, t_67_59, t_67_61, t_67_63, t_67_64, t_67_67, t_67_69, t_67_71, t_67_72, t_67_75, t_67_78, t_67_81, t_67_84, t_67_87, t_67_90, t_67_93, t_67_96, t_67_97, decide_true, decide_false, Bool.not_true, Bool.not_false, Nat.reduceLeDiff, Nat.reduceSub, z0_t, z1_f, z1_t, true_or, or_true,  if_true, if_false, Bool.false_eq_true, aft_v, aft_n, aftN_v, aftN_n, qwV_s, qwV_0, bI_if, bI_ok, bI_ok0, bI_ok1, true_and, f_1_0 h, k_0 h, k_1 h, k_2 h, k_4 h, k_5 h, k_7 h, s6r h, if_pos (le_t (show n.1 ≤ a by omega) (show a < 2 ^ 31 by omega)), prF_0]
  | d + 1, a, acc, l4, l5, l6, hj => by
    have ih := fun acc l4 l5 l6 => s67_l h hN hA (s := s) d (a + 1) acc l4 l5 l6 (by omega)
    have ha : a < n.1 := by omega
    have b := s67_m h hN hA (s := s) (mc := mc) (ms := ms) (post := post) ha (F := fun acc => post (.inl (some (.int (prF (fun a b => shrC (c 9) (c 10) a (rdA 4 (c 11 a) (nI 0) s) b (rdA 4 (c 11 b) (nI 0) s)) n.1 d (a + 1) acc)))) (Wo x l n c)) (fun acc l5 l6 => by
      rw [t_67_20]
      simp only [t_67_22, t_67_23, t_67_26, t_67_29, t_67_32, t_67_33, t_67_36, t_67_37, t_67_40, t_67_43, t_67_45, t_67_46, t_67_49, t_67_51, t_67_54, t_67_57, t_67_59, t_67_61, t_67_63, t_67_64, t_67_67, t_67_69, t_67_71, t_67_72, t_67_75, t_67_78, t_67_81, t_67_84, t_67_87, t_67_90, t_67_93, t_67_96, t_67_97, decide_true, decide_false, Bool.not_true, Bool.not_false, Nat.reduceLeDiff, Nat.reduceSub, z0_t, z1_f, z1_t, true_or, or_true,  if_true, if_false, Bool.false_eq_true, aft_v, aft_n, aftN_v, aftN_n, qwV_s, qwV_0, bI_if, bI_ok, bI_ok0, bI_ok1, true_and, f_1_0 h, k_0 h, k_1 h, k_2 h, k_4 h, k_5 h, k_7 h, s6r h, if_pos (le_t (Nat.le_refl n.1) (show n.1 < 2 ^ 31 by omega)), nI_add, ih]) (n.1 - (a + 1)) (a + 1)
    rw [t_67_4]
    simp only [t_67_5, t_67_6, t_67_9, t_67_12, t_67_15, t_67_16, t_67_17, t_67_18, decide_true, decide_false, Bool.not_true, Bool.not_false, Nat.reduceLeDiff, Nat.reduceSub, z0_t, z1_f, z1_t, true_or, or_true,  if_true, if_false, Bool.false_eq_true, aft_v, aft_n, aftN_v, aftN_n, qwV_s, qwV_0, bI_if, bI_ok, bI_ok0, bI_ok1, true_and, f_1_0 h, k_0 h, k_1 h, k_2 h, k_4 h, k_5 h, k_7 h, s6r h, if_neg (le_f ha (show n.1 < 2 ^ 31 by omega)), nI_add, b _ _ _ (show a + 1 + (n.1 - (a + 1)) = n.1 by omega), prF_s]
def mtL (A B C : Fn2) (N : Nat) (s : Int32) : Int32 := prF (fun a b => shrC A B a (rdA 4 (C a) (nI 0) s) b (rdA 4 (C b) (nI 0) s)) N N 0 (nI 0)
theorem s67 (h : Lay x l n) (hN : n.1 ≤ 8 ∧ n.1 ≤ n.2.2.2) (hA : SzA n.2.2.2 (c 9)) {s : Int32} : CL x 67 [.ref (l.1 1 0), .int s] (Wo x l n c) K = K (.inl (some (.int (mtL (c 9) (c 10) (c 11) n.1 s)))) (Wo x l n c) := by
  rw [CL_67]
  simp only [t_67_0, t_67_1, t_67_2, t_67_3, decide_true, decide_false, Bool.not_true, Bool.not_false, Nat.reduceLeDiff, Nat.reduceSub, z0_t, z1_f, z1_t, true_or, or_true,  if_true, if_false, Bool.false_eq_true, aft_v, aft_n, aftN_v, aftN_n, qwV_s, qwV_0, bI_if, bI_ok, bI_ok0, bI_ok1, true_and, s67_l h hN hA n.1 0 _ _ _ _ (Nat.zero_add _), mtL]
theorem s68_m (h : Lay x l n) (hN : n.1 ≤ 8 ∧ n.1 ≤ n.2.2.2) (hA : SzA n.2.2.2 (c 9)) {s : Int32} {a : Nat} (ha : a < n.1) {F : Int32 → Prop} (hR : ∀ acc l5 l6 l7, WP x 68 20 [some (.ref (l.1 1 0)), some (.int s), some (.int acc), some (.int (nI a)), some (.int (nI n.1)), l5, l6, l7] [] (Wo x l n c) mc ms post = F acc) : ∀ (d b : Nat) (acc : Int32) (l5 l6 l7 : Option Value), b + d = n.1 → WP x 68 20 [some (.ref (l.1 1 0)), some (.int s), some (.int acc), some (.int (nI a)), some (.int (nI b)), l5, l6, l7] [] (Wo x l n c) mc ms post = F (cntI (fun b => (!decide (c 9 a 3 < s) && !decide (c 9 b 3 < s)) && shrC (c 9) (c 10) a (allP (c 9) a) b (allP (c 9) b)) d b acc)
  | 0, b, acc, l5, l6, l7, hj => by
    rw [show b = n.1 by omega, hR, cntI_0]
  | d + 1, b, acc, l5, l6, l7, hj => by
    have ih := fun acc l5 l6 l7 => s68_m h hN hA ha hR d (b + 1) acc l5 l6 l7 (by omega)
    have hb : b < n.1 := by omega
    have ha1 : a < n.2.2.2 := by omega
    have hb1 : b < n.2.2.2 := by omega
    rw [cntI_s, t_68_20]
    simp only [t_68_22, t_68_23, t_68_26, t_68_29, t_68_32, t_68_33, t_68_36, t_68_37, t_68_40, t_68_43, t_68_45, t_68_46, t_68_49, t_68_51, t_68_54, t_68_57, t_68_59, t_68_61, t_68_62, t_68_65, t_68_68, t_68_70, t_68_71, t_68_74, t_68_77, t_68_78, t_68_81, t_68_82, t_68_84, t_68_86, t_68_89, t_68_91, t_68_93, t_68_96, t_68_98, t_68_100, t_68_103, t_68_106, t_68_109, t_68_112, t_68_115, decide_true, decide_false, Bool.not_true, Bool.not_false, Nat.reduceLeDiff, Nat.reduceSub, z0_t, z1_f, z1_t, true_or, or_true,  if_true, if_false, Bool.false_eq_true, aft_v, aft_n, aftN_v, aftN_n, qwV_s, qwV_0, bI_if, bI_ok, bI_ok0, bI_ok1, true_and, k_0 h, k_1 h, k_2 h, k_4 h, k_5 h, k_7 h, f_1_0 h, s6r h, s8r h hN ha, s8r h hN hb, k_9 h ha1, k_9 h hb1, if_neg (le_f hb (show n.1 < 2 ^ 31 by omega)), s45 h ha1, s45 h hb1, s46 h ha1, s46 h hb1, s69 h hA ha1 hb1, nI_add, ih]
    unfold allP
    cases shrC (c 9) (c 10) a (nI 1 <<< (c 9 a 2 &&& 31) - nI 1) b (nI 1 <<< (c 9 b 2 &&& 31) - nI 1) <;> by_cases h1 : c 9 a 3 < s <;> by_cases h2 : c 9 b 3 < s <;> simp [h1, h2]
theorem s68_l (h : Lay x l n) (hN : n.1 ≤ 8 ∧ n.1 ≤ n.2.2.2) (hA : SzA n.2.2.2 (c 9)) {s : Int32} : ∀ (d a : Nat) (acc : Int32) (l4 l5 l6 l7 : Option Value), a + d = n.1 → WP x 68 4 [some (.ref (l.1 1 0)), some (.int s), some (.int acc), some (.int (nI a)), l4, l5, l6, l7] [] (Wo x l n c) mc ms post = post (.inl (some (.int (prF (fun a b => (!decide (c 9 a 3 < s) && !decide (c 9 b 3 < s)) && shrC (c 9) (c 10) a (allP (c 9) a) b (allP (c 9) b)) n.1 d a acc)))) (Wo x l n c)
  | 0, a, acc, l4, l5, l6, l7, hj => by
    rw [t_68_4]
    simp only [t_68_5, t_68_6, t_68_9, t_68_12, t_68_15, t_68_16, t_68_17, t_68_18, t_68_20, t_68_22, t_68_23, t_68_26, t_68_29, t_68_32, t_68_33, t_68_36, t_68_37, t_68_40, t_68_43, t_68_45, t_68_46, t_68_49, t_68_51, t_68_54, t_68_57, t_68_59, t_68_61, t_68_62, t_68_65, t_68_68, t_68_70, t_68_71, t_68_74, t_68_77, t_68_78, t_68_81, t_68_82, t_68_84, t_68_86, t_68_89, t_68_91, t_68_93, t_68_96, t_68_98, t_68_100, t_68_103, t_68_106, t_68_109, t_68_112, t_68_115, t_68_118, t_68_121, t_68_124, t_68_125, decide_true, decide_false, Bool.not_true, Bool.not_false, Nat.reduceLeDiff, Nat.reduceSub, z0_t, z1_f, z1_t, true_or, or_true,  if_true, if_false, Bool.false_eq_true, aft_v, aft_n, aftN_v, aftN_n, qwV_s, qwV_0, bI_if, bI_ok, bI_ok0, bI_ok1, true_and, f_1_0 h, k_0 h, k_1 h, k_2 h, k_4 h, k_5 h, k_7 h, s6r h, if_pos (le_t (show n.1 ≤ a by omega) (show a < 2 ^ 31 by omega)), prF_0]
  | d + 1, a, acc, l4, l5, l6, l7, hj => by
    have ih := fun acc l4 l5 l6 l7 => s68_l h hN hA (s := s) d (a + 1) acc l4 l5 l6 l7 (by omega)
    have ha : a < n.1 := by omega
    have b := s68_m h hN hA (s := s) (mc := mc) (ms := ms) (post := post) ha (F := fun acc => post (.inl (some (.int (prF (fun a b => (!decide (c 9 a 3 < s) && !decide (c 9 b 3 < s)) && shrC (c 9) (c 10) a (allP (c 9) a) b (allP (c 9) b)) n.1 d (a + 1) acc)))) (Wo x l n c)) (fun acc l5 l6 l7 => by
      rw [t_68_20]
      simp only [t_68_22, t_68_23, t_68_26, t_68_29, t_68_32, t_68_33, t_68_36, t_68_37, t_68_40, t_68_43, t_68_45, t_68_46, t_68_49, t_68_51, t_68_54, t_68_57, t_68_59, t_68_61, t_68_62, t_68_65, t_68_68, t_68_70, t_68_71, t_68_74, t_68_77, t_68_78, t_68_81, t_68_82, t_68_84, t_68_86, t_68_89, t_68_91, t_68_93, t_68_96, t_68_98, t_68_100, t_68_103, t_68_106, t_68_109, t_68_112, t_68_115, t_68_118, t_68_121, t_68_124, t_68_125, decide_true, decide_false, Bool.not_true, Bool.not_false, Nat.reduceLeDiff, Nat.reduceSub, z0_t, z1_f, z1_t, true_or, or_true,  if_true, if_false, Bool.false_eq_true, aft_v, aft_n, aftN_v, aftN_n, qwV_s, qwV_0, bI_if, bI_ok, bI_ok0, bI_ok1, true_and, f_1_0 h, k_0 h, k_1 h, k_2 h, k_4 h, k_5 h, k_7 h, s6r h, if_pos (le_t (Nat.le_refl n.1) (show n.1 < 2 ^ 31 by omega)), nI_add, ih]) (n.1 - (a + 1)) (a + 1)
    rw [t_68_4]
    simp only [t_68_5, t_68_6, t_68_9, t_68_12, t_68_15, t_68_16, t_68_17, t_68_18, decide_true, decide_false, Bool.not_true, Bool.not_false, Nat.reduceLeDiff, Nat.reduceSub, z0_t, z1_f, z1_t, true_or, or_true,  if_true, if_false, Bool.false_eq_true, aft_v, aft_n, aftN_v, aftN_n, qwV_s, qwV_0, bI_if, bI_ok, bI_ok0, bI_ok1, true_and, f_1_0 h, k_0 h, k_1 h, k_2 h, k_4 h, k_5 h, k_7 h, s6r h, if_neg (le_f ha (show n.1 < 2 ^ 31 by omega)), nI_add, b _ _ _ _ (show a + 1 + (n.1 - (a + 1)) = n.1 by omega), prF_s]
def mtA (A B : Fn2) (N : Nat) (s : Int32) : Int32 := prF (fun a b => (!decide (A a 3 < s) && !decide (A b 3 < s)) && shrC A B a (allP A a) b (allP A b)) N N 0 (nI 0)
theorem s68 (h : Lay x l n) (hN : n.1 ≤ 8 ∧ n.1 ≤ n.2.2.2) (hA : SzA n.2.2.2 (c 9)) {s : Int32} : CL x 68 [.ref (l.1 1 0), .int s] (Wo x l n c) K = K (.inl (some (.int (mtA (c 9) (c 10) n.1 s)))) (Wo x l n c) := by
  rw [CL_68]
  simp only [t_68_0, t_68_1, t_68_2, t_68_3, decide_true, decide_false, Bool.not_true, Bool.not_false, Nat.reduceLeDiff, Nat.reduceSub, z0_t, z1_f, z1_t, true_or, or_true,  if_true, if_false, Bool.false_eq_true, aft_v, aft_n, aftN_v, aftN_n, qwV_s, qwV_0, bI_if, bI_ok, bI_ok0, bI_ok1, true_and, s68_l h hN hA n.1 0 _ _ _ _ _ (Nat.zero_add _), mtA]
end
