/-! what is drawn -/
def dF (bit : Nat → Bool) (B : Nat → Int32) (o : Nat) : Nat → Nat → Nat → (Nat → Int32) → (Nat → Int32)
  | 0, _, _, f => f
  | d + 1, p, k, f => if bit p = true then dF bit B o d (p + 1) (k + 1) (upd f (o + k) (B p)) else dF bit B o d (p + 1) k f
theorem dF_0 {bit : Nat → Bool} {B : Nat → Int32} {o p k : Nat} {f : Nat → Int32} : dF bit B o 0 p k f = f := rfl
theorem dF_s {bit : Nat → Bool} {B : Nat → Int32} {o d p k : Nat} {f : Nat → Int32} : dF bit B o (d + 1) p k f = if bit p = true then dF bit B o d (p + 1) (k + 1) (upd f (o + k) (B p)) else dF bit B o d (p + 1) k f := rfl
def itF {α : Type} (g : Nat → α → α) : Nat → Nat → α → α
  | 0, _, f => f
  | d + 1, r, f => itF g d (r + 1) (g r f)
theorem itF_0 {α : Type} {g : Nat → α → α} {r : Nat} {f : α} : itF g 0 r f = f := rfl
theorem itF_s {α : Type} {g : Nat → α → α} {d r : Nat} {f : α} : itF g (d + 1) r f = itF g d (r + 1) (g r f) := rfl
def onP (g : Nat → Int32) (p : Int32) : Bool := onR (g 1) (g 2) (g 3) (g 4) (xO p) (yO p)
/-- a road of a set, laid into the lines if it lies on the sheet -/
def drR (A B : Fn2) (g : Nat → Int32) (S : Nat → Int32) (r : Nat) (f : Nat → Int32) : Nat → Int32 :=
  if anyB (fun q => hs (S r) (nI q) && onP g (B r q)) (szO A r) 0 = true then dF (fun p => hs (S r) (nI p)) (B r) (r * 8) (szO A r) 0 0 f else f
section
variable {x : Cx} {l : Ly} {n : Nn} {c : Cc} {i q q' z mc ms : Nat} {K post : Po}
theorem s71_l (h : Lay x l n) (hA : SzA n.2.2.2 (c 9)) {r : Nat} (hr : r < 8) (hr1 : r < n.2.2.2) (hq : q < n.2.2.1 + 1) {S : Int32} : ∀ (d p k : Nat) (f : Nat → Int32), p + d = szO (c 9) r → k ≤ p → WP x 71 6 [some (.int (nI r)), some (.ref (l.1 9 r)), some (.int S), some (.ref (l.1 14 q)), some (.int (nI k)), some (.int (nI p))] [] (Wo x l n (cu c 17 q f)) mc ms post = post (.inl none) (Wo x l n (cu c 17 q (dF (fun p => hs S (nI p)) (c 10 r) (r * 8) d p k f)))
  | 0, p, k, f, hj, hk => by
    have hz8 := (hA r hr1).2
    have e := (hA r hr1).1
    have e9 : ∀ F, cu c 17 q F 9 = c 9 := fun F => by funext i'; exact cu_k (by decide)
    rw [t_71_6]
    simp only [t_71_8, t_71_9, t_71_12, t_71_15, t_71_16, t_71_18, t_71_21, t_71_24, t_71_25, t_71_26, t_71_28, t_71_29, t_71_31, t_71_34, t_71_37, t_71_40, t_71_43, t_71_46, decide_true, decide_false, Bool.not_true, Bool.not_false, Nat.reduceLeDiff, Nat.reduceSub, z0_t, z1_f, z1_t, true_or, or_true,  if_true, if_false, Bool.false_eq_true, aft_v, aft_n, aftN_v, aftN_n, qwV_s, qwV_0, bI_if, bI_ok, bI_ok0, bI_ok1, true_and, k_9 h hr1, s40 h hr1, e9, e, if_pos (le_t (show szO (c 9) r ≤ p by omega) (show p < 2 ^ 31 by omega)), dF_0]
  | d + 1, p, k, f, hj, hk => by
    have hz8 := (hA r hr1).2
    have e := (hA r hr1).1
    have e9 : ∀ F, cu c 17 q F 9 = c 9 := fun F => by funext i'; exact cu_k (by decide)
    have e10 : ∀ F, cu c 17 q F 10 = c 10 := fun F => by funext i'; exact cu_k (by decide)
    have ih := fun k f hk => s71_l h hA hr hr1 hq (S := S) d (p + 1) k f (by omega) hk
    rw [t_71_6]
    simp only [t_71_8, t_71_9, t_71_12, t_71_15, t_71_16, t_71_18, t_71_21, t_71_24, t_71_25, t_71_26, t_71_28, t_71_29, t_71_31, t_71_34, t_71_37, t_71_40, t_71_43, t_71_46, decide_true, decide_false, Bool.not_true, Bool.not_false, Nat.reduceLeDiff, Nat.reduceSub, z0_t, z1_f, z1_t, true_or, or_true,  if_true, if_false, Bool.false_eq_true, aft_v, aft_n, aftN_v, aftN_n, qwV_s, qwV_0, bI_if, bI_ok, bI_ok0, bI_ok1, true_and, k_9 h hr1, k_14 h hq, s40 h hr1, e9, e10, e, if_neg (le_f (show p < szO (c 9) r by omega) (show szO (c 9) r < 2 ^ 31 by omega)), s102, s41 h hr1, plc_in (show p < szO (c 9) r by omega) hz8, s24 h hq hr (show k < 8 by omega), cu_s, cu_cu, nI_add, ih (k + 1) _ (by omega), ih k _ (by omega)]
    rw [dF_s]
    cases hs S (nI p) <;> simp
theorem s71 (h : Lay x l n) (hA : SzA n.2.2.2 (c 9)) {r : Nat} (hr : r < 8) (hr1 : r < n.2.2.2) (hq : q < n.2.2.1 + 1) {S : Int32} {f : Nat → Int32} : CL x 71 [.int (nI r), .ref (l.1 9 r), .int S, .ref (l.1 14 q)] (Wo x l n (cu c 17 q f)) K = K (.inl none) (Wo x l n (cu c 17 q (dF (fun p => hs S (nI p)) (c 10 r) (r * 8) (szO (c 9) r) 0 0 f))) := by
  rw [CL_71]
  simp only [t_71_0, t_71_1, t_71_3, t_71_4, s71_l h hA hr hr1 hq (szO (c 9) r) 0 0 f (Nat.zero_add _) (Nat.le_refl 0)]
abbrev shS (c : Cc) (s : Nat) : Nat → Int32 := fun r => rdA 4 (c 11 r) (nI 0) (c 13 s 0)
theorem s70_l (h : Lay x l n) (hN : n.1 ≤ 8 ∧ n.1 ≤ n.2.2.2) (hA : SzA n.2.2.2 (c 9)) {s : Nat} (hs' : s < n.2.2.1) (hq : q < n.2.2.1 + 1) : ∀ (d r : Nat) (f : Nat → Int32) (l4 l5 : Option Value), r + d = n.1 → WP x 70 6 [some (.ref (l.1 1 0)), some (.ref (l.1 13 s)), some (.ref (l.1 14 q)), some (.int (nI r)), l4, l5] [] (Wo x l n (cu c 17 q f)) mc ms post = post (.inl none) (Wo x l n (cu c 17 q (itF (drR (c 9) (c 10) (c 13 s) (shS c s)) d r f)))
  | 0, r, f, l4, l5, hj => by
    rw [t_70_6]
    simp only [t_70_7, t_70_8, t_70_11, t_70_14, t_70_17, t_70_18, t_70_21, t_70_22, t_70_25, t_70_28, t_70_30, t_70_32, t_70_33, t_70_36, t_70_39, t_70_41, t_70_43, t_70_44, t_70_46, t_70_49, t_70_52, t_70_53, t_70_55, t_70_57, t_70_58, t_70_61, t_70_64, t_70_67, decide_true, decide_false, Bool.not_true, Bool.not_false, Nat.reduceLeDiff, Nat.reduceSub, z0_t, z1_f, z1_t, true_or, or_true,  if_true, if_false, Bool.false_eq_true, aft_v, aft_n, aftN_v, aftN_n, qwV_s, qwV_0, bI_if, bI_ok, bI_ok0, bI_ok1, true_and, f_1_0 h, k_0 h, k_1 h, k_2 h, k_4 h, k_5 h, k_7 h, s6r h, if_pos (le_t (show n.1 ≤ r by omega) (show r < 2 ^ 31 by omega)), itF_0]
  | d + 1, r, f, l4, l5, hj => by
    have hr : r < n.1 := by omega
    have hr1 : r < n.2.2.2 := by omega
    have e : ∀ F k, k ≠ 17 → cu c 17 q F k = c k := fun F k hk => by funext i'; exact cu_k hk
    have ih := fun f l4 l5 => s70_l h hN hA hs' hq d (r + 1) f l4 l5 (by omega)
    have s50' := fun F K S => s50 (x := x) (c := cu c 17 q F) (K := K) (S := S) h hr1 (by rw [e _ _ (by decide)]; exact (hA r hr1).1) (hA r hr1).2 hs'
    simp only [e _ 13 (by decide), e _ 10 (by decide)] at s50'
    rw [t_70_6]
    simp only [t_70_7, t_70_8, t_70_11, t_70_14, t_70_17, t_70_18, t_70_21, t_70_22, t_70_25, t_70_28, t_70_30, t_70_32, t_70_33, t_70_36, t_70_39, t_70_41, t_70_43, t_70_44, t_70_46, t_70_49, t_70_52, t_70_53, t_70_55, t_70_57, t_70_58, t_70_61, t_70_64, t_70_67, decide_true, decide_false, Bool.not_true, Bool.not_false, Nat.reduceLeDiff, Nat.reduceSub, z0_t, z1_f, z1_t, true_or, or_true,  if_true, if_false, Bool.false_eq_true, aft_v, aft_n, aftN_v, aftN_n, qwV_s, qwV_0, bI_if, bI_ok, bI_ok0, bI_ok1, true_and, f_1_0 h, k_0 h, k_1 h, k_2 h, k_4 h, k_5 h, k_7 h, s6r h, s8r h hN hr, k_9 h hr1, k_13 h hs', s32 h hs', s47 h hr1, e _ 11 (by decide), e _ 13 (by decide), if_neg (le_f hr (show n.1 < 2 ^ 31 by omega)), s50', s71 h hA (show r < 8 by omega) hr1 hq, nI_add, ih]
    rw [itF_s]
    unfold drR onP
    cases anyB (fun p => hs (rdA 4 (c 11 r) (nI 0) (c 13 s 0)) (nI p) && onR (c 13 s 1) (c 13 s 2) (c 13 s 3) (c 13 s 4) (xO (c 10 r p)) (yO (c 10 r p))) (szO (c 9) r) 0 <;> simp
theorem s70 (h : Lay x l n) (hN : n.1 ≤ 8 ∧ n.1 ≤ n.2.2.2) (hA : SzA n.2.2.2 (c 9)) {s : Nat} (hs' : s < n.2.2.1) (hq : q < n.2.2.1 + 1) : CL x 70 [.ref (l.1 1 0), .ref (l.1 13 s), .ref (l.1 14 q)] (Wo x l n c) K = K (.inl none) (Wo x l n (cu c 17 q (itF (drR (c 9) (c 10) (c 13 s) (shS c s)) n.1 0 (cp 64 (c 17 q) nn1)))) := by
  rw [CL_70]
  simp only [t_70_0, t_70_1, t_70_4, t_70_5, decide_true, decide_false, Bool.not_true, Bool.not_false, Nat.reduceLeDiff, Nat.reduceSub, z0_t, z1_f, z1_t, true_or, or_true,  if_true, if_false, Bool.false_eq_true, aft_v, aft_n, aftN_v, aftN_n, qwV_s, qwV_0, bI_if, bI_ok, bI_ok0, bI_ok1, true_and, k_14 h hq, s22 h hq, s70_l h hN hA hs' hq n.1 0 _ _ _ (Nat.zero_add _)]
/-! names -/
theorem s6n (h : Lay x l n) : CL x 6 [.ref (l.1 5 0)] (Wo x l n c) K = K (.inl (some (.int (nI n.2.1)))) (Wo x l n c) := s6 (g_5 h)
theorem s8n (h : Lay x l n) (hN : n.2.1 ≤ 10) {j : Nat} (hj : j < n.2.1) : CL x 8 [.ref (l.1 5 0), .int (nI j)] (Wo x l n c) K = K (.inl (some (.ref (l.1 12 j)))) (Wo x l n c) := by
  have h0 : n.2.1 ≠ 0 := by omega
  have h1 := g_5 h (c := c)
  rw [if_neg h0] at h1
  exact s8 h1 (g_6 h h0) (if_pos hj) hj (by omega) (by decide)
theorem s6s (h : Lay x l n) : CL x 6 [.ref (l.1 7 0)] (Wo x l n c) K = K (.inl (some (.int (nI n.2.2.1)))) (Wo x l n c) := s6 (g_7 h)
theorem s8s (h : Lay x l n) (hN : n.2.2.1 ≤ 6) {j : Nat} (hj : j < n.2.2.1) : CL x 8 [.ref (l.1 7 0), .int (nI j)] (Wo x l n c) K = K (.inl (some (.ref (l.1 13 j)))) (Wo x l n c) := by
  have h0 : n.2.2.1 ≠ 0 := by omega
  have h1 := g_7 h (c := c)
  rw [if_neg h0] at h1
  exact s8 h1 (g_8 h h0) (if_pos hj) hj (by omega) (by decide)
theorem s53 (h : Lay x l n) : CL x 53 [.ref (l.1 4 0)] (Wo x l n c) K = K (.inl (some (.int (nI n.2.1)))) (Wo x l n c) := by
  rw [CL_53]
  simp only [t_53_0, t_53_1, t_53_4, t_53_7, decide_true, decide_false, Bool.not_true, Bool.not_false, Nat.reduceLeDiff, Nat.reduceSub, z0_t, z1_f, z1_t, true_or, or_true,  if_true, if_false, Bool.false_eq_true, aft_v, aft_n, aftN_v, aftN_n, qwV_s, qwV_0, bI_if, bI_ok, bI_ok0, bI_ok1, true_and, f_4_0 h, k_0 h, k_1 h, k_2 h, k_4 h, k_5 h, k_7 h, s6n h]
theorem s54 (h : Lay x l n) (hN : n.2.1 ≤ 10) {j : Nat} (hj : j < n.2.1) : CL x 54 [.ref (l.1 4 0), .int (nI j)] (Wo x l n c) K = K (.inl (some (.ref (l.1 12 j)))) (Wo x l n c) := by
  rw [CL_54]
  simp only [t_54_0, t_54_1, t_54_4, t_54_5, t_54_8, t_54_11, decide_true, decide_false, Bool.not_true, Bool.not_false, Nat.reduceLeDiff, Nat.reduceSub, z0_t, z1_f, z1_t, true_or, or_true,  if_true, if_false, Bool.false_eq_true, aft_v, aft_n, aftN_v, aftN_n, qwV_s, qwV_0, bI_if, bI_ok, bI_ok0, bI_ok1, true_and, f_4_0 h, k_0 h, k_1 h, k_2 h, k_4 h, k_5 h, k_7 h, s8n h hN hj, k_12 h hj]
def ltF (g : Nat → Bool) : Nat → Nat → Int32
  | 0, _ => -1
  | d + 1, j => if g j = true then nI j else ltF g d (j + 1)
theorem ltF_0 {g : Nat → Bool} {j : Nat} : ltF g 0 j = -1 := rfl
theorem ltF_s {g : Nat → Bool} {d j : Nat} : ltF g (d + 1) j = if g j = true then nI j else ltF g d (j + 1) := rfl
/-- the label of a name, if it has one, takes one of len places from st on -/
def tkB (f : Nat → Int32) (G : Fn2) (st len : Int32) (j : Nat) : Bool := !decide (f j = -1) && (!decide (st + len ≤ f j) && !decide (f j + G j 0 ≤ st))
theorem s58_l (h : Lay x l n) (hN : n.2.1 ≤ 10) (hq : q < n.2.2.1 + 1) {st len : Int32} : ∀ (d j : Nat) (l5 : Option Value), j + d = n.2.1 → WP x 58 3 [some (.ref (l.1 4 0)), some (.int st), some (.int len), some (.ref (l.1 14 q)), some (.int (nI j)), l5] [] (Wo x l n c) mc ms post = post (.inl (some (.int (ltF (tkB (c 15 q) (c 12) st len) d j)))) (Wo x l n c)
  | 0, j, l5, hj => by
    rw [t_58_3]
    simp only [t_58_5, t_58_6, t_58_9, t_58_12, t_58_15, t_58_16, t_58_18, t_58_21, t_58_23, t_58_25, t_58_26, t_58_29, t_58_31, t_58_32, t_58_33, t_58_34, t_58_37, t_58_38, t_58_40, t_58_41, t_58_44, t_58_46, t_58_49, t_58_52, t_58_55, t_58_56, t_58_59, t_58_61, t_58_62, t_58_65, t_58_68, t_58_69, decide_true, decide_false, Bool.not_true, Bool.not_false, Nat.reduceLeDiff, Nat.reduceSub, z0_t, z1_f, z1_t, true_or, or_true,  if_true, if_false, Bool.false_eq_true, aft_v, aft_n, aftN_v, aftN_n, qwV_s, qwV_0, bI_if, bI_ok, bI_ok0, bI_ok1, true_and, f_4_0 h, k_0 h, k_1 h, k_2 h, k_4 h, k_5 h, k_7 h, s6n h, if_pos (le_t (show n.2.1 ≤ j by omega) (show j < 2 ^ 31 by omega)), ltF_0]
  | d + 1, j, l5, hj => by
    have hj1 : j < n.2.1 := by omega
    have ih := fun l5 => s58_l h hN hq (st := st) (len := len) d (j + 1) l5 (by omega)
    rw [t_58_3]
    simp only [t_58_5, t_58_6, t_58_9, t_58_12, t_58_15, t_58_16, t_58_18, t_58_21, t_58_23, t_58_25, t_58_26, t_58_29, t_58_31, t_58_32, t_58_33, t_58_34, t_58_37, t_58_38, t_58_40, t_58_41, t_58_44, t_58_46, t_58_49, t_58_52, t_58_55, t_58_56, t_58_59, t_58_61, t_58_62, t_58_65, t_58_68, t_58_69, decide_true, decide_false, Bool.not_true, Bool.not_false, Nat.reduceLeDiff, Nat.reduceSub, z0_t, z1_f, z1_t, true_or, or_true,  if_true, if_false, Bool.false_eq_true, aft_v, aft_n, aftN_v, aftN_n, qwV_s, qwV_0, bI_if, bI_ok, bI_ok0, bI_ok1, true_and, f_4_0 h, k_0 h, k_1 h, k_2 h, k_4 h, k_5 h, k_7 h, s6n h, s8n h hN hj1, k_12 h hj1, k_14 h hq, if_neg (le_f hj1 (show n.2.1 < 2 ^ 31 by omega)), s26 h hq, rdA_in (show j < 10 by omega) (show 10 < 2 ^ 31 by decide), s14 h hj1, nI_add, ih]
    rw [ltF_s]
    unfold tkB
    by_cases h1 : c 15 q j = -1 <;> by_cases h2 : st + len ≤ c 15 q j <;> by_cases h3 : c 15 q j + c 12 j 0 ≤ st <;> simp [h1, h2, h3]
theorem s58 (h : Lay x l n) (hN : n.2.1 ≤ 10) (hq : q < n.2.2.1 + 1) {st len : Int32} : CL x 58 [.ref (l.1 4 0), .int st, .int len, .ref (l.1 14 q)] (Wo x l n c) K = K (.inl (some (.int (ltF (tkB (c 15 q) (c 12) st len) n.2.1 0)))) (Wo x l n c) := by
  rw [CL_58]
  simp only [t_58_0, t_58_1, s58_l h hN hq n.2.1 0 _ (Nat.zero_add _)]
def fsF (P : Nat → Bool) : Nat → Nat → Nat
  | 0, j => j
  | d + 1, j => if P j = true then j else fsF P d (j + 1)
theorem fsF_0 {P : Nat → Bool} {j : Nat} : fsF P 0 j = j := rfl
theorem fsF_s {P : Nat → Bool} {d j : Nat} : fsF P (d + 1) j = if P j = true then j else fsF P d (j + 1) := rfl
theorem fsF_le {P : Nat → Bool} : ∀ {d j : Nat}, j ≤ fsF P d j ∧ fsF P d j ≤ j + d
  | 0, j => ⟨Nat.le_refl j, Nat.le_refl j⟩
  | d + 1, j => by
    have := fsF_le (P := P) (d := d) (j := j + 1)
    rw [fsF_s]
    split <;> omega
abbrev S2 : Type := (Nat → Int32) × (Nat → Int32)
def lbS (g : Nat → Int32) (sd : Nat) : Int32 := lbY (g 3) (nI sd) * nI 40 + lbX (g 2) (g 0) (nI sd)
def lbP (f : Nat → Int32) (N : Nat) (G : Fn2) (u : Nat → Int32) (m sd : Nat) : Bool := rmR (u 1) (u 2) (u 3) (u 4) (u 5) (lbX (G m 2) (G m 0) (nI sd)) (lbY (G m 3) (nI sd)) (G m 0) && decide (ltF (tkB f G (lbS (G m) sd) (G m 0)) N 0 = -1)
/-- a name's label: the first side of four that has room -/
def lb1 (N : Nat) (G : Fn2) (u : Nat → Int32) (m : Nat) (f : S2) : S2 := if fsF (lbP f.1 N G u m) 4 0 < 4 then (upd f.1 m (lbS (G m) (fsF (lbP f.1 N G u m) 4 0)), upd f.2 m (nI (fsF (lbP f.1 N G u m) 4 0))) else f
def lb2 (N : Nat) (G : Fn2) (u : Nat → Int32) (rk : Int32) (m : Nat) (f : S2) : S2 := if (decide (G m 1 = rk) && onP u (G m 3 * nI 40 + G m 2)) = true then lb1 N G u m f else f
def lb3 (N : Nat) (G : Fn2) (u : Nat → Int32) : Nat → Nat → S2 → S2
  | 0, _, f => f
  | d + 1, sc, f => lb3 N G u d sc (itF (lb2 N G u (nI (sc + d))) N 0 f)
theorem lb3_0 {N : Nat} {G : Fn2} {u : Nat → Int32} {sc : Nat} {f : S2} : lb3 N G u 0 sc f = f := rfl
theorem lb3_s {N : Nat} {G : Fn2} {u : Nat → Int32} {d sc : Nat} {f : S2} : lb3 N G u (d + 1) sc f = lb3 N G u d sc (itF (lb2 N G u (nI (sc + d))) N 0 f) := rfl
def cL (c : Cc) (q : Nat) (f : S2) : Cc := cu (cu c 16 q f.2) 15 q f.1
theorem cL_n {c : Cc} {q k : Nat} {f : S2} (h1 : k ≠ 15) (h2 : k ≠ 16) : cL c q f k = c k := by
  funext i'
  exact (cu_k h1).trans (cu_k h2)
theorem cL_1 {c : Cc} {q : Nat} {f : S2} : cL c q f 15 q = f.1 := cu_s
theorem cL_2 {c : Cc} {q : Nat} {f : S2} : cL c q f 16 q = f.2 := (cu_k (by decide)).trans cu_s
theorem cL_u {c : Cc} {q : Nat} {f : S2} {a b : Nat → Int32} : cu (cu (cL c q f) 16 q b) 15 q a = cL c q (a, b) := cu_4 (by decide)
theorem s57_l (h : Lay x l n) (hN : n.2.1 ≤ 10) {s : Nat} (hs' : s < n.2.2.1) (hq : q < n.2.2.1 + 1) {m : Nat} (hm : m < n.2.1) : ∀ (d j : Nat) (l6 l7 l8 : Option Value), j + d = 4 → WP x 57 3 [some (.ref (l.1 4 0)), some (.int (nI m)), some (.ref (l.1 12 m)), some (.ref (l.1 13 s)), some (.ref (l.1 14 q)), some (.int (nI j)), l6, l7, l8] [] (Wo x l n c) mc ms post = post (.inl none) (Wo x l n (if fsF (lbP (c 15 q) n.2.1 (c 12) (c 13 s) m) d j < 4 then cu (cu c 16 q (upd (c 16 q) m (nI (fsF (lbP (c 15 q) n.2.1 (c 12) (c 13 s) m) d j)))) 15 q (upd (c 15 q) m (lbS (c 12 m) (fsF (lbP (c 15 q) n.2.1 (c 12) (c 13 s) m) d j))) else c))
  | 0, j, l6, l7, l8, hj => by
    rw [t_57_3, fsF_0, if_neg (show ¬ j < 4 by omega)]
    simp only [t_57_5, t_57_6, t_57_9, t_57_10, t_57_12, t_57_15, t_57_17, t_57_18, t_57_20, t_57_23, t_57_25, t_57_26, t_57_28, t_57_30, t_57_31, t_57_34, t_57_37, t_57_40, t_57_42, t_57_44, t_57_47, t_57_49, t_57_50, t_57_52, t_57_53, t_57_56, t_57_58, t_57_61, t_57_62, t_57_65, t_57_67, t_57_68, t_57_70, t_57_72, t_57_75, t_57_76, t_57_79, t_57_82, decide_true, decide_false, Bool.not_true, Bool.not_false, Nat.reduceLeDiff, Nat.reduceSub, z0_t, z1_f, z1_t, true_or, or_true,  if_true, if_false, Bool.false_eq_true, aft_v, aft_n, aftN_v, aftN_n, qwV_s, qwV_0, bI_if, bI_ok, bI_ok0, bI_ok1, true_and, if_pos (lt_t (show 3 < j by omega) (show j < 2 ^ 31 by omega))]
  | d + 1, j, l6, l7, l8, hj => by
    have ih := fun l6 l7 l8 => s57_l h hN hs' hq hm d (j + 1) l6 l7 l8 (by omega)
    rw [t_57_3]
    simp only [t_57_5, t_57_6, t_57_9, t_57_10, t_57_12, t_57_15, t_57_17, t_57_18, t_57_20, t_57_23, t_57_25, t_57_26, t_57_28, t_57_30, t_57_31, t_57_34, t_57_37, t_57_40, t_57_42, t_57_44, t_57_47, t_57_49, t_57_50, t_57_52, t_57_53, t_57_56, t_57_58, t_57_61, t_57_62, t_57_65, t_57_67, t_57_68, t_57_70, t_57_72, t_57_75, t_57_76, t_57_79, t_57_82, decide_true, decide_false, Bool.not_true, Bool.not_false, Nat.reduceLeDiff, Nat.reduceSub, z0_t, z1_f, z1_t, true_or, or_true,  if_true, if_false, Bool.false_eq_true, aft_v, aft_n, aftN_v, aftN_n, qwV_s, qwV_0, bI_if, bI_ok, bI_ok0, bI_ok1, true_and, k_0 h, k_1 h, k_2 h, k_4 h, k_5 h, k_7 h, if_neg (lt_f (show j ≤ 3 by omega) (show 3 < 2 ^ 31 by decide)), k_12 h hm, k_13 h hs', k_14 h hq, s18 h hm, s19 h hm, s14 h hm, s35 h hs', s99, s58 h hN hq, s23 h hq (show m < 10 by omega), nI_add, ih]
    rw [fsF_s]
    have e : lbP (c 15 q) n.2.1 (c 12) (c 13 s) m j = (rmR (c 13 s 1) (c 13 s 2) (c 13 s 3) (c 13 s 4) (c 13 s 5) (lbX (c 12 m 2) (c 12 m 0) (nI j)) (lbY (c 12 m 3) (nI j)) (c 12 m 0) && decide (ltF (tkB (c 15 q) (c 12) (lbY (c 12 m 3) (nI j) * nI 40 + lbX (c 12 m 2) (c 12 m 0) (nI j)) (c 12 m 0)) n.2.1 0 = -1)) := rfl
    rw [e]
    have hj4 : j < 4 := by omega
    cases rmR (c 13 s 1) (c 13 s 2) (c 13 s 3) (c 13 s 4) (c 13 s 5) (lbX (c 12 m 2) (c 12 m 0) (nI j)) (lbY (c 12 m 3) (nI j)) (c 12 m 0) <;> by_cases h2 : ltF (tkB (c 15 q) (c 12) (lbY (c 12 m 3) (nI j) * nI 40 + lbX (c 12 m 2) (c 12 m 0) (nI j)) (c 12 m 0)) n.2.1 0 = -1 <;> simp [h2, hj4, lbS]
theorem s57 (h : Lay x l n) (hN : n.2.1 ≤ 10) {s : Nat} (hs' : s < n.2.2.1) (hq : q < n.2.2.1 + 1) {m : Nat} (hm : m < n.2.1) {f : S2} : CL x 57 [.ref (l.1 4 0), .int (nI m), .ref (l.1 12 m), .ref (l.1 13 s), .ref (l.1 14 q)] (Wo x l n (cL c q f)) K = K (.inl none) (Wo x l n (cL c q (lb1 n.2.1 (c 12) (c 13 s) m f))) := by
  rw [CL_57]
  simp only [t_57_0, t_57_1, s57_l h hN hs' hq hm 4 0 _ _ _ rfl]
  rw [cL_1, cL_2, cL_n (by decide) (by decide), cL_n (by decide) (by decide)]
  unfold lb1
  split
  · rw [cL_u]
  · rfl
theorem s56_m (h : Lay x l n) (hN : n.2.1 ≤ 10) {s : Nat} (hs' : s < n.2.2.1) (hq : q < n.2.2.1 + 1) {rk : Int32} {F : S2 → Prop} (hR : ∀ f l5, WP x 56 17 [some (.ref (l.1 4 0)), some (.ref (l.1 13 s)), some (.ref (l.1 14 q)), some (.int rk), some (.int (nI n.2.1)), l5] [] (Wo x l n (cL c q f)) mc ms post = F f) : ∀ (d m : Nat) (f : S2) (l5 : Option Value), m + d = n.2.1 → WP x 56 17 [some (.ref (l.1 4 0)), some (.ref (l.1 13 s)), some (.ref (l.1 14 q)), some (.int rk), some (.int (nI m)), l5] [] (Wo x l n (cL c q f)) mc ms post = F (itF (lb2 n.2.1 (c 12) (c 13 s) rk) d m f)
  | 0, m, f, l5, hj => by
    rw [show m = n.2.1 by omega, hR, itF_0]
  | d + 1, m, f, l5, hj => by
    have hm : m < n.2.1 := by omega
    have ih := fun f l5 => s56_m h hN hs' hq hR d (m + 1) f l5 (by omega)
    have s34' := fun p K f => s34 (x := x) (c := cL c q f) (p := p) (K := K) h hs'
    rw [t_56_17, itF_s]
    simp only [t_56_19, t_56_20, t_56_23, t_56_26, t_56_29, t_56_30, t_56_33, t_56_35, t_56_38, t_56_41, t_56_43, t_56_45, t_56_48, t_56_49, t_56_52, t_56_53, t_56_55, t_56_58, t_56_61, t_56_64, t_56_65, t_56_67, t_56_69, t_56_70, t_56_71, t_56_74, t_56_77, decide_true, decide_false, Bool.not_true, Bool.not_false, Nat.reduceLeDiff, Nat.reduceSub, z0_t, z1_f, z1_t, true_or, or_true,  if_true, if_false, Bool.false_eq_true, aft_v, aft_n, aftN_v, aftN_n, qwV_s, qwV_0, bI_if, bI_ok, bI_ok0, bI_ok1, true_and, k_0 h, k_1 h, k_2 h, k_4 h, k_5 h, k_7 h, f_4_0 h, s6n h, s8n h hN hm, k_12 h hm, k_13 h hs', k_14 h hq, if_neg (le_f hm (show n.2.1 < 2 ^ 31 by omega)), s15 h hm, s16 h hm, s34 h hs', s57 h hN hs' hq hm, cL_n (show 12 ≠ 15 by decide) (show 12 ≠ 16 by decide), cL_n (show 13 ≠ 15 by decide) (show 13 ≠ 16 by decide), nI_add, ih]
    unfold lb2 onP
    by_cases h1 : c 12 m 1 = rk <;> cases onR (c 13 s 1) (c 13 s 2) (c 13 s 3) (c 13 s 4) (xO (c 12 m 3 * nI 40 + c 12 m 2)) (yO (c 12 m 3 * nI 40 + c 12 m 2)) <;> simp [h1]
theorem rk_lt : ∀ sc : Nat, sc ≤ 3 → nI sc + (-1) < nI sc := by decide
theorem s56_l (h : Lay x l n) (hN : n.2.1 ≤ 10) {s : Nat} (hs' : s < n.2.2.1) (hq : q < n.2.2.1 + 1) {sc : Nat} (hsc : sc ≤ 3) (hc : c 13 s 0 = nI sc) : ∀ (d : Nat) (f : S2) (l4 l5 : Option Value), sc + d ≤ 4 → WP x 56 6 [some (.ref (l.1 4 0)), some (.ref (l.1 13 s)), some (.ref (l.1 14 q)), some (.int (nI (sc + d) + (-1))), l4, l5] [] (Wo x l n (cL c q f)) mc ms post = post (.inl none) (Wo x l n (cL c q (lb3 n.2.1 (c 12) (c 13 s) d sc f)))
  | 0, f, l4, l5, hj => by
    rw [t_56_6]
    simp only [t_56_7, t_56_8, t_56_11, t_56_14, t_56_15, t_56_17, t_56_19, t_56_20, t_56_23, t_56_26, t_56_29, t_56_30, t_56_33, t_56_35, t_56_38, t_56_41, t_56_43, t_56_45, t_56_48, t_56_49, t_56_52, t_56_53, t_56_55, t_56_58, t_56_61, t_56_64, t_56_65, t_56_67, t_56_69, t_56_70, t_56_71, t_56_74, t_56_77, t_56_80, t_56_83, t_56_86, decide_true, decide_false, Bool.not_true, Bool.not_false, Nat.reduceLeDiff, Nat.reduceSub, z0_t, z1_f, z1_t, true_or, or_true,  if_true, if_false, Bool.false_eq_true, aft_v, aft_n, aftN_v, aftN_n, qwV_s, qwV_0, bI_if, bI_ok, bI_ok0, bI_ok1, true_and, k_0 h, k_1 h, k_2 h, k_4 h, k_5 h, k_7 h, k_13 h hs', s32 h hs', cL_n (show 13 ≠ 15 by decide) (show 13 ≠ 16 by decide), hc, if_pos (rk_lt sc hsc), Nat.add_zero, lb3_0]
  | d + 1, f, l4, l5, hj => by
    have ih := fun f l4 l5 => s56_l h hN hs' hq hsc hc d f l4 l5 (by omega)
    have b := s56_m h hN hs' hq (c := c) (mc := mc) (ms := ms) (post := post) (rk := nI (sc + d)) (F := fun f => post (.inl none) (Wo x l n (cL c q (lb3 n.2.1 (c 12) (c 13 s) d sc f)))) (fun f l5 => by
      rw [t_56_17]
      simp only [t_56_19, t_56_20, t_56_23, t_56_26, t_56_29, t_56_30, t_56_33, t_56_35, t_56_38, t_56_41, t_56_43, t_56_45, t_56_48, t_56_49, t_56_52, t_56_53, t_56_55, t_56_58, t_56_61, t_56_64, t_56_65, t_56_67, t_56_69, t_56_70, t_56_71, t_56_74, t_56_77, t_56_80, t_56_83, t_56_86, decide_true, decide_false, Bool.not_true, Bool.not_false, Nat.reduceLeDiff, Nat.reduceSub, z0_t, z1_f, z1_t, true_or, or_true,  if_true, if_false, Bool.false_eq_true, aft_v, aft_n, aftN_v, aftN_n, qwV_s, qwV_0, bI_if, bI_ok, bI_ok0, bI_ok1, true_and, k_0 h, k_1 h, k_2 h, k_4 h, k_5 h, k_7 h, f_4_0 h, s6n h, if_pos (le_t (Nat.le_refl n.2.1) (show n.2.1 < 2 ^ 31 by omega)), ih]) n.2.1 0
    rw [t_56_6, show nI (sc + (d + 1)) + (-1) = nI (sc + d) from pk_m1 (sc + d)]
    simp only [t_56_7, t_56_8, t_56_11, t_56_14, t_56_15, decide_true, decide_false, Bool.not_true, Bool.not_false, Nat.reduceLeDiff, Nat.reduceSub, z0_t, z1_f, z1_t, true_or, or_true,  if_true, if_false, Bool.false_eq_true, aft_v, aft_n, aftN_v, aftN_n, qwV_s, qwV_0, bI_if, bI_ok, bI_ok0, bI_ok1, true_and, k_0 h, k_1 h, k_2 h, k_4 h, k_5 h, k_7 h, k_13 h hs', s32 h hs', cL_n (show 13 ≠ 15 by decide) (show 13 ≠ 16 by decide), hc, if_neg (lt_f (show sc ≤ sc + d by omega) (show sc + d < 2 ^ 31 by omega)), b _ _ (Nat.zero_add _), lb3_s]
def lbA (N : Nat) (G : Fn2) (u f g : Nat → Int32) (sc : Nat) : S2 := lb3 N G u (4 - sc) sc (cp 10 f nn1, cp 10 g nn1)
theorem s56 (h : Lay x l n) (hN : n.2.1 ≤ 10) {s : Nat} (hs' : s < n.2.2.1) (hq : q < n.2.2.1 + 1) {sc : Nat} (hsc : sc ≤ 3) (hc : c 13 s 0 = nI sc) : CL x 56 [.ref (l.1 4 0), .ref (l.1 13 s), .ref (l.1 14 q)] (Wo x l n c) K = K (.inl none) (Wo x l n (cL c q (lbA n.2.1 (c 12) (c 13 s) (c 15 q) (c 16 q) sc))) := by
  rw [CL_56]
  have b := fun l4 l5 => s56_l h hN hs' hq hsc hc (mc := 0) (ms := 0) (post := K) (4 - sc) (cp 10 (c 15 q) nn1, cp 10 (c 16 q) nn1) l4 l5 (by omega)
  rw [show sc + (4 - sc) = 3 + 1 by omega, pk_m1] at b
  have e : cu (cu c 15 q (cp 10 (c 15 q) nn1)) 16 q (cp 10 (c 16 q) nn1) = cL c q (cp 10 (c 15 q) nn1, cp 10 (c 16 q) nn1) := cu_c (by decide)
  simp only [t_56_0, t_56_1, t_56_4, t_56_5, decide_true, decide_false, Bool.not_true, Bool.not_false, Nat.reduceLeDiff, Nat.reduceSub, z0_t, z1_f, z1_t, true_or, or_true,  if_true, if_false, Bool.false_eq_true, aft_v, aft_n, aftN_v, aftN_n, qwV_s, qwV_0, bI_if, bI_ok, bI_ok0, bI_ok1, true_and, k_14 h hq, s21 h hq, e, b, lbA]
end
