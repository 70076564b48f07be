set_option maxRecDepth 100000 in
theorem fr_le : ∀ a, a < 49 → ∀ j, j ≤ 8 → ∀ L, L ≤ 8 → (nI a - nI 8 + nI L ≤ nI a - nI 8 + nI j ↔ L ≤ j) := by decide +kernel
def anyT (f : Fn1) (G : Fn2) (N : Nat) (k A : Int32) : Bool := anyB (fun o => takM (f o) (G o 0) k A) N 0
def bdG (f : Fn1) (G : Fn2) (N : Nat) (F A fo : Int32) (j : Nat) : Bool := decide (F + nI j = fo) || anyT f G N (F + nI j) A
def lnO (G : Fn2) (m : Nat) : Nat := (G m 0).toNatClampNeg
def rmG (f : Fn1) (N : Nat) (G : Fn2) (u : Fn1) (m sd : Nat) : Bool := (onR (u 1) (u 2) (u 3) (u 4) (lbX (G m 2) (G m 0) (nI sd)) (lbY (G m 3) (nI sd)) && onR (u 1) (u 2) (u 3) (u 4) (lbX (G m 2) (G m 0) (nI sd) + G m 0 - nI 1) (lbY (G m 3) (nI sd))) && !anyB (bdG f G N (lbX (G m 2) (G m 0) (nI sd)) (lbY (G m 3) (nI sd)) (u 5)) (lnO G m) 0
def GM (c : Cc) : Fn2 := fun m j => match j with
  | 0 => c 31 0 m
  | 1 => c 32 0 m
  | 2 => c 29 0 m
  | _ => c 30 0 m
def UM (c : Cc) (s : Nat) : Fn1 := fun j => match j with
  | 0 => c 34 0 s
  | 1 => c 35 0 s
  | 2 => c 36 0 s
  | 3 => c 37 0 s
  | 4 => c 38 0 s
  | _ => c 39 0 s
/-- places and lengths of names are in their ranges -/
def NmG (N : Nat) (G : Fn2) : Prop := ∀ m, m < N → (∃ X Y, X < 40 ∧ Y < 40 ∧ G m 2 = nI X ∧ G m 3 = nI Y) ∧ G m 0 = nI (lnO G m) ∧ 1 ≤ lnO G m ∧ lnO G m ≤ 8
set_option maxRecDepth 100000 in
theorem xl_8 : ∀ X, X < 40 → ∀ L, L ≤ 8 → nI X - nI L = nI (X + 8 - L) - nI 8 := by decide +kernel
theorem lbX_r {X L sd : Nat} (hX : X < 40) (hL : L ≤ 8) : ∃ a, a < 49 ∧ lbX (nI X) (nI L) (nI sd) = nI a - nI 8 := by
  unfold lbX
  by_cases h1 : nI sd = 0
  · rw [if_pos h1]
    exact ⟨X + 1 + 8, by omega, by rw [pk_sub (by omega), Nat.add_sub_cancel, nI_add]⟩
  · rw [if_neg h1]
    by_cases h2 : nI sd = nI 1
    · rw [if_pos h2]
      exact ⟨X + 8 - L, by omega, xl_8 X hX L hL⟩
    · rw [if_neg h2]
      exact ⟨X + 8, by omega, by rw [pk_sub (by omega), Nat.add_sub_cancel]⟩
section
variable {x : Cx} {l : Ly} {n : Nn} {c : Cc} {mc ms : Nat} {w : Wd} {K post : Po}
theorem s137_m (h : Lay x l n) (hN : n.2.1 ≤ 10) (hn : c 18 0 13 = nI n.2.1) {l1 l2 l3 l4 : Option Value} {k A : Int32} : ∀ (d o : Nat) (u : Bool), o + d = n.2.1 → WP x 137 100 [some (.ref (l.1 18 0)), l1, l2, l3, l4, some (.int A), some (.int (bI u)), some (.int k), some (.int (nI o))] [] (Wo x l n c) mc ms post = WP x 137 100 [some (.ref (l.1 18 0)), l1, l2, l3, l4, some (.int A), some (.int (bI (u && !anyB (fun o => takM (c 47 0 o) (GM c o 0) k A) d o))), some (.int k), some (.int (nI n.2.1))] [] (Wo x l n c) mc ms post
  | 0, o, u, hj => by
    rw [show o = n.2.1 by omega, anyB_0, Bool.not_false, Bool.and_true]
  | d + 1, o, u, hj => by
    have ih := fun u => s137_m h hN hn (l1 := l1) (l2 := l2) (l3 := l3) (l4 := l4) (k := k) (A := A) d (o + 1) u (by omega)
    have ho : o < n.2.1 := by omega
    rw [anyB_s, Bool.not_or, ← Bool.and_assoc, ← ih, t_137_100]
    simp only [t_137_102, t_137_103, t_137_106, t_137_109, t_137_111, t_137_114, t_137_115, t_137_117, t_137_119, t_137_121, t_137_124, t_137_127, t_137_128, t_137_131, t_137_132, t_137_134, t_137_137, decide_true, decide_false, Bool.not_true, Bool.not_false, Nat.reduceLeDiff, Nat.reduceSub, z0_t, z1_f, z1_t, true_or, or_true,  if_true, if_false, Bool.false_eq_true, aft_v, aft_n, aftN_v, aftN_n, qwV_s, qwV_0, bI_if, bI_ok, bI_ok0, bI_ok1, true_and, f_18_0 h, f_18_1 h, f_18_2 h, f_18_3 h, f_18_4 h, f_18_5 h, f_18_6 h, f_18_7 h, f_18_8 h, f_18_9 h, f_18_10 h, f_18_11 h, f_18_12 h, f_18_13 h, f_18_14 h, f_18_15 h, f_18_16 h, f_18_17 h, f_18_18 h, f_18_19 h, f_18_20 h, f_18_21 h, f_18_22 h, f_18_23 h, f_18_24 h, f_18_25 h, f_18_26 h, f_18_27 h, rL_21 h, rL_22 h, rL_24 h, rL_25 h, rL_26 h, rL_27 h, rL_29 h, rL_30 h, rL_31 h, rL_32 h, rL_34 h, rL_35 h, rL_36 h, rL_37 h, rL_38 h, rL_39 h, rL_40 h, rL_43 h, rL_44 h, rL_45 h, rL_46 h, rL_47 h, rI_41 h, k_0 h, k_1 h, k_2 h, k_4 h, k_5 h, k_7 h, k_18 h, hn, if_neg (le_f ho (show n.2.1 < 2 ^ 31 by omega)), s136 h (show o < 10 by omega), nI_add, GM]
    cases u <;> cases takM (c 47 0 o) (c 31 0 o) k A <;> simp [bI_t, bI_f]
theorem s137_l (h : Lay x l n) (hN : n.2.1 ≤ 10) (hn : c 18 0 13 = nI n.2.1) {s m : Nat} (hs' : s < 6) (hm : m < 10) {l3 : Option Value} {a L : Nat} (ha : a < 49) (hL : L ≤ 8) {A : Int32} (hG : c 31 0 m = nI L) : ∀ (d j : Nat) (u : Bool) (l8 : Option Value), j + d = L → WP x 137 60 [some (.ref (l.1 18 0)), some (.int (nI s)), some (.int (nI m)), l3, some (.int (nI a - nI 8)), some (.int A), some (.int (bI u)), some (.int (nI a - nI 8 + nI j)), l8] [] (Wo x l n c) mc ms post = post (.inl (some (.int (bI (u && !anyB (bdG (c 47 0) (GM c) n.2.1 (nI a - nI 8) A (c 39 0 s)) d j))))) (Wo x l n c)
  | 0, j, u, l8, hj => by
    rw [t_137_60]
    simp only [t_137_62, t_137_64, t_137_65, t_137_68, t_137_69, t_137_70, t_137_71, t_137_74, t_137_76, t_137_79, t_137_81, t_137_82, t_137_85, t_137_86, t_137_87, t_137_90, t_137_91, t_137_94, t_137_95, t_137_97, t_137_98, t_137_102, t_137_103, t_137_106, t_137_109, t_137_111, t_137_114, t_137_115, t_137_117, t_137_119, t_137_121, t_137_124, t_137_127, t_137_128, t_137_131, t_137_132, t_137_134, t_137_137, t_137_140, t_137_143, t_137_146, t_137_148, decide_true, decide_false, Bool.not_true, Bool.not_false, Nat.reduceLeDiff, Nat.reduceSub, z0_t, z1_f, z1_t, true_or, or_true,  if_true, if_false, Bool.false_eq_true, aft_v, aft_n, aftN_v, aftN_n, qwV_s, qwV_0, bI_if, bI_ok, bI_ok0, bI_ok1, true_and, f_18_0 h, f_18_1 h, f_18_2 h, f_18_3 h, f_18_4 h, f_18_5 h, f_18_6 h, f_18_7 h, f_18_8 h, f_18_9 h, f_18_10 h, f_18_11 h, f_18_12 h, f_18_13 h, f_18_14 h, f_18_15 h, f_18_16 h, f_18_17 h, f_18_18 h, f_18_19 h, f_18_20 h, f_18_21 h, f_18_22 h, f_18_23 h, f_18_24 h, f_18_25 h, f_18_26 h, f_18_27 h, rL_21 h, rL_22 h, rL_24 h, rL_25 h, rL_26 h, rL_27 h, rL_29 h, rL_30 h, rL_31 h, rL_32 h, rL_34 h, rL_35 h, rL_36 h, rL_37 h, rL_38 h, rL_39 h, rL_40 h, rL_43 h, rL_44 h, rL_45 h, rL_46 h, rL_47 h, rI_41 h, vp_in_nI hm (show 10 < 2 ^ 31 by decide), nI_clamp (show m < 2 ^ 31 by omega), hG, if_pos ((fr_le a ha j (by omega) L hL).mpr (by omega)), anyB_0, Bool.and_true]
  | d + 1, j, u, l8, hj => by
    have ih := fun u l8 => s137_l h hN hn hs' hm (l3 := l3) ha hL (A := A) hG d (j + 1) u l8 (by omega)
    have e : nI a - nI 8 + nI j + nI 1 = nI a - nI 8 + nI (j + 1) := by rw [Int32.add_assoc, nI_add]
    rw [t_137_60]
    simp only [t_137_62, t_137_64, t_137_65, t_137_68, t_137_69, t_137_70, t_137_71, t_137_74, t_137_76, t_137_79, t_137_81, t_137_82, t_137_85, t_137_86, t_137_87, t_137_90, t_137_91, t_137_94, t_137_95, t_137_97, t_137_98, decide_true, decide_false, Bool.not_true, Bool.not_false, Nat.reduceLeDiff, Nat.reduceSub, z0_t, z1_f, z1_t, true_or, or_true,  if_true, if_false, Bool.false_eq_true, aft_v, aft_n, aftN_v, aftN_n, qwV_s, qwV_0, bI_if, bI_ok, bI_ok0, bI_ok1, true_and, f_18_0 h, f_18_1 h, f_18_2 h, f_18_3 h, f_18_4 h, f_18_5 h, f_18_6 h, f_18_7 h, f_18_8 h, f_18_9 h, f_18_10 h, f_18_11 h, f_18_12 h, f_18_13 h, f_18_14 h, f_18_15 h, f_18_16 h, f_18_17 h, f_18_18 h, f_18_19 h, f_18_20 h, f_18_21 h, f_18_22 h, f_18_23 h, f_18_24 h, f_18_25 h, f_18_26 h, f_18_27 h, rL_21 h, rL_22 h, rL_24 h, rL_25 h, rL_26 h, rL_27 h, rL_29 h, rL_30 h, rL_31 h, rL_32 h, rL_34 h, rL_35 h, rL_36 h, rL_37 h, rL_38 h, rL_39 h, rL_40 h, rL_43 h, rL_44 h, rL_45 h, rL_46 h, rL_47 h, rI_41 h, vp_in_nI hm (show 10 < 2 ^ 31 by decide), vp_in_nI hs' (show 6 < 2 ^ 31 by decide), nI_clamp (show m < 2 ^ 31 by omega), nI_clamp (show s < 2 ^ 31 by omega), hG, if_neg (fun z => absurd ((fr_le a ha j (by omega) L hL).mp z) (show ¬ L ≤ j by omega))]
    have fin : ∀ v : Bool, WP x 137 100 [some (.ref (l.1 18 0)), some (.int (nI s)), some (.int (nI m)), l3, some (.int (nI a - nI 8)), some (.int A), some (.int (bI v)), some (.int (nI a - nI 8 + nI j)), some (.int (nI 0))] [] (Wo x l n c) mc ms post = post (.inl (some (.int (bI ((v && !anyT (c 47 0) (GM c) n.2.1 (nI a - nI 8 + nI j) A) && !anyB (bdG (c 47 0) (GM c) n.2.1 (nI a - nI 8) A (c 39 0 s)) d (j + 1)))))) (Wo x l n c) := by
      intro v
      rw [s137_m h hN hn n.2.1 0 v (Nat.zero_add _), t_137_100]
      simp only [t_137_102, t_137_103, t_137_106, t_137_109, t_137_111, t_137_114, t_137_115, t_137_117, t_137_119, t_137_121, t_137_124, t_137_127, t_137_128, t_137_131, t_137_132, t_137_134, t_137_137, t_137_140, t_137_143, t_137_146, t_137_148, decide_true, decide_false, Bool.not_true, Bool.not_false, Nat.reduceLeDiff, Nat.reduceSub, z0_t, z1_f, z1_t, true_or, or_true,  if_true, if_false, Bool.false_eq_true, aft_v, aft_n, aftN_v, aftN_n, qwV_s, qwV_0, bI_if, bI_ok, bI_ok0, bI_ok1, true_and, f_18_0 h, f_18_1 h, f_18_2 h, f_18_3 h, f_18_4 h, f_18_5 h, f_18_6 h, f_18_7 h, f_18_8 h, f_18_9 h, f_18_10 h, f_18_11 h, f_18_12 h, f_18_13 h, f_18_14 h, f_18_15 h, f_18_16 h, f_18_17 h, f_18_18 h, f_18_19 h, f_18_20 h, f_18_21 h, f_18_22 h, f_18_23 h, f_18_24 h, f_18_25 h, f_18_26 h, f_18_27 h, rL_21 h, rL_22 h, rL_24 h, rL_25 h, rL_26 h, rL_27 h, rL_29 h, rL_30 h, rL_31 h, rL_32 h, rL_34 h, rL_35 h, rL_36 h, rL_37 h, rL_38 h, rL_39 h, rL_40 h, rL_43 h, rL_44 h, rL_45 h, rL_46 h, rL_47 h, rI_41 h, hn, if_pos (le_t (Nat.le_refl n.2.1) (show n.2.1 < 2 ^ 31 by omega)), e, ih, anyT]
    have f0 := fin false
    have f1 := fin true
    rw [bI_f] at f0
    rw [bI_t] at f1
    rw [anyB_s (d := d)]
    rw [show bdG (c 47 0) (GM c) n.2.1 (nI a - nI 8) A (c 39 0 s) j = (decide (nI a - nI 8 + nI j = c 39 0 s) || anyT (c 47 0) (GM c) n.2.1 (nI a - nI 8 + nI j) A) from rfl]
    cases u
    · simp only [Bool.false_eq_true, if_false, f0, Bool.false_and, bI_f]
    · by_cases h1 : nI a - nI 8 + nI j = c 39 0 s
      · simp only [if_true, if_pos h1, decide_eq_true h1, f0, Bool.false_and, Bool.true_or, Bool.not_true, Bool.and_false, Bool.true_and]
      · simp only [if_true, if_neg h1, decide_eq_false h1, f1, Bool.false_or, Bool.true_and, Bool.not_or, Bool.and_assoc]
theorem s137 (h : Lay x l n) (hN : n.2.1 ≤ 10) (hn : c 18 0 13 = nI n.2.1) (hG : NmG n.2.1 (GM c)) {s m : Nat} (hs' : s < 6) (hm : m < n.2.1) {sd : Nat} : CL x 137 [.ref (l.1 18 0), .int (nI s), .int (nI m), .int (nI sd)] (Wo x l n c) K = K (.inl (some (.int (bI (rmG (c 47 0) n.2.1 (GM c) (UM c s) m sd))))) (Wo x l n c) := by
  obtain ⟨⟨X, Y, hX, hY, eX, eY⟩, e0, e1, e8⟩ := hG m hm
  have eX' : c 29 0 m = nI X := eX
  have eY' : c 30 0 m = nI Y := eY
  have e0' : c 31 0 m = nI (lnO (GM c) m) := e0
  have hm10 : m < 10 := by omega
  obtain ⟨a, ha, eF⟩ := lbX_r (sd := sd) hX e8
  have lp := fun u => s137_l h hN hn hs' hm10 (l3 := some (.int (nI sd))) ha e8 (A := lbY (nI Y) (nI sd)) (c := c) (mc := 0) (ms := 0) (post := K) e0' (lnO (GM c) m) 0 u none (Nat.zero_add _)
  have z0 : nI a - nI 8 + nI 0 = nI a - nI 8 := by rw [nI_0]; exact Int32.add_zero _
  rw [z0] at lp
  have f0 := lp false
  have f1 := lp true
  rw [bI_f] at f0
  rw [bI_t] at f1
  have er : rmG (c 47 0) n.2.1 (GM c) (UM c s) m sd = ((onR (c 35 0 s) (c 36 0 s) (c 37 0 s) (c 38 0 s) (nI a - nI 8) (lbY (nI Y) (nI sd)) && onR (c 35 0 s) (c 36 0 s) (c 37 0 s) (c 38 0 s) (nI a - nI 8 + nI (lnO (GM c) m) - nI 1) (lbY (nI Y) (nI sd))) && !anyB (bdG (c 47 0) (GM c) n.2.1 (nI a - nI 8) (lbY (nI Y) (nI sd)) (c 39 0 s)) (lnO (GM c) m) 0) := by
    unfold rmG
    rw [eX, eY, e0, eF]
    rfl
  rw [CL_137, er]
  simp only [t_137_0, t_137_1, t_137_2, t_137_3, t_137_6, t_137_8, t_137_9, t_137_10, t_137_11, t_137_14, t_137_16, t_137_17, t_137_18, t_137_20, t_137_22, t_137_25, t_137_28, t_137_29, t_137_30, t_137_32, t_137_33, t_137_36, t_137_37, t_137_38, t_137_39, t_137_40, t_137_41, t_137_43, t_137_46, t_137_49, t_137_50, t_137_53, t_137_54, t_137_56, t_137_58, decide_true, decide_false, Bool.not_true, Bool.not_false, Nat.reduceLeDiff, Nat.reduceSub, z0_t, z1_f, z1_t, true_or, or_true,  if_true, if_false, Bool.false_eq_true, aft_v, aft_n, aftN_v, aftN_n, qwV_s, qwV_0, bI_if, bI_ok, bI_ok0, bI_ok1, true_and, f_18_0 h, f_18_1 h, f_18_2 h, f_18_3 h, f_18_4 h, f_18_5 h, f_18_6 h, f_18_7 h, f_18_8 h, f_18_9 h, f_18_10 h, f_18_11 h, f_18_12 h, f_18_13 h, f_18_14 h, f_18_15 h, f_18_16 h, f_18_17 h, f_18_18 h, f_18_19 h, f_18_20 h, f_18_21 h, f_18_22 h, f_18_23 h, f_18_24 h, f_18_25 h, f_18_26 h, f_18_27 h, rL_21 h, rL_22 h, rL_24 h, rL_25 h, rL_26 h, rL_27 h, rL_29 h, rL_30 h, rL_31 h, rL_32 h, rL_34 h, rL_35 h, rL_36 h, rL_37 h, rL_38 h, rL_39 h, rL_40 h, rL_43 h, rL_44 h, rL_45 h, rL_46 h, rL_47 h, rI_41 h, k_0 h, k_1 h, k_2 h, k_4 h, k_5 h, k_7 h, k_18 h, s134 h hm10, s135 h hm10, eX', eY', e0', eF, s133 h hs', vp_in_nI hm10 (show 10 < 2 ^ 31 by decide), nI_clamp (show m < 2 ^ 31 by omega), f0, f1]
  cases onR (c 35 0 s) (c 36 0 s) (c 37 0 s) (c 38 0 s) (nI a - nI 8) (lbY (nI Y) (nI sd)) <;> cases onR (c 35 0 s) (c 36 0 s) (c 37 0 s) (c 38 0 s) (nI a - nI 8 + nI (lnO (GM c) m) - nI 1) (lbY (nI Y) (nI sd)) <;> simp
def gvF (P : Fn1 → Nat → Bool) (g : Fn1) (m : Nat) : Nat → Nat → S2 → S2
  | 0, _, f => f
  | d + 1, k, f => if f.1 m = -1 then (if P f.1 k = true then gvF P g m d (k + 1) (upd f.1 m (lbS g k), upd f.2 m (nI k)) else gvF P g m d (k + 1) f) else f
theorem gvF_0 {P : Fn1 → Nat → Bool} {g : Fn1} {m k : Nat} {f : S2} : gvF P g m 0 k f = f := rfl
theorem gvF_s {P : Fn1 → Nat → Bool} {g : Fn1} {m d k : Nat} {f : S2} : gvF P g m (d + 1) k f = if f.1 m = -1 then (if P f.1 k = true then gvF P g m d (k + 1) (upd f.1 m (lbS g k), upd f.2 m (nI k)) else gvF P g m d (k + 1) f) else f := rfl
def cM (c : Cc) (f : S2) : Cc := cu (cu c 46 0 f.2) 47 0 f.1
theorem cM_n {k : Nat} {f : S2} (h1 : k ≠ 46) (h2 : k ≠ 47) : cM c f k = c k := by
  funext i'
  exact (cu_k h2).trans (cu_k h1)
theorem cM_1 {f : S2} : cM c f 47 0 = f.1 := cu_s
theorem cM_2 {f : S2} : cM c f 46 0 = f.2 := (cu_k (by decide)).trans cu_s
theorem cM_u {f : S2} {a b : Nat → Int32} : cu (cu (cM c f) 46 0 b) 47 0 a = cM c (a, b) := cu_4 (by decide)
theorem cM_c {f g : S2} : cM (cM c f) g = cM c g := cu_4 (by decide)
theorem GM_M {f : S2} : GM (cM c f) = GM c := by
  funext m j
  unfold GM
  rw [cM_n (by decide) (by decide), cM_n (by decide) (by decide), cM_n (by decide) (by decide), cM_n (by decide) (by decide)]
theorem UM_M {f : S2} {s : Nat} : UM (cM c f) s = UM c s := by
  funext j
  unfold UM
  rw [cM_n (by decide) (by decide), cM_n (by decide) (by decide), cM_n (by decide) (by decide), cM_n (by decide) (by decide), cM_n (by decide) (by decide), cM_n (by decide) (by decide)]
theorem s138_l (h : Lay x l n) (hN : n.2.1 ≤ 10) (hn : c 18 0 13 = nI n.2.1) (hG : NmG n.2.1 (GM c)) {s m : Nat} (hs' : s < 6) (hm : m < n.2.1) : ∀ (d k : Nat) (f : S2), k + d = 4 → WP x 138 2 [some (.ref (l.1 18 0)), some (.int (nI s)), some (.int (nI m)), some (.int (nI k))] [] (Wo x l n (cM c f)) mc ms post = post (.inl none) (Wo x l n (cM c (gvF (fun f k => rmG f n.2.1 (GM c) (UM c s) m k) (GM c m) m d k f)))
  | 0, k, f, hj => by
    rw [t_138_2]
    simp only [t_138_3, t_138_4, t_138_7, t_138_8, t_138_11, t_138_12, t_138_13, t_138_14, t_138_17, t_138_18, t_138_19, t_138_20, t_138_21, t_138_24, t_138_27, t_138_28, t_138_31, t_138_32, t_138_33, t_138_34, t_138_35, t_138_38, t_138_39, t_138_41, t_138_42, t_138_43, t_138_44, t_138_47, t_138_48, t_138_49, t_138_50, t_138_51, t_138_54, t_138_55, t_138_56, t_138_59, t_138_62, decide_true, decide_false, Bool.not_true, Bool.not_false, Nat.reduceLeDiff, Nat.reduceSub, z0_t, z1_f, z1_t, true_or, or_true,  if_true, if_false, Bool.false_eq_true, aft_v, aft_n, aftN_v, aftN_n, qwV_s, qwV_0, bI_if, bI_ok, bI_ok0, bI_ok1, true_and, if_pos (lt_t (show 3 < k by omega) (show k < 2 ^ 31 by omega)), gvF_0]
  | d + 1, k, f, hj => by
    have ih := fun f => s138_l h hN hn hG hs' hm d (k + 1) f (by omega)
    have hm10 : m < 10 := by omega
    have s137' := fun K => s137 (x := x) (c := cM c f) (K := K) h hN (by rw [cM_n (by decide) (by decide)]; exact hn) (by rw [GM_M]; exact hG) hs' hm (sd := k)
    rw [GM_M, UM_M, cM_1] at s137'
    rw [t_138_2, gvF_s]
    simp (disch := decide) only [t_138_3, t_138_4, t_138_7, t_138_8, t_138_11, t_138_12, t_138_13, t_138_14, t_138_17, t_138_18, t_138_19, t_138_20, t_138_21, t_138_24, t_138_27, t_138_28, t_138_31, t_138_32, t_138_33, t_138_34, t_138_35, t_138_38, t_138_39, t_138_41, t_138_42, t_138_43, t_138_44, t_138_47, t_138_48, t_138_49, t_138_50, t_138_51, t_138_54, t_138_55, t_138_56, t_138_59, t_138_62, decide_true, decide_false, Bool.not_true, Bool.not_false, Nat.reduceLeDiff, Nat.reduceSub, z0_t, z1_f, z1_t, true_or, or_true,  if_true, if_false, Bool.false_eq_true, aft_v, aft_n, aftN_v, aftN_n, qwV_s, qwV_0, bI_if, bI_ok, bI_ok0, bI_ok1, true_and, f_18_0 h, f_18_1 h, f_18_2 h, f_18_3 h, f_18_4 h, f_18_5 h, f_18_6 h, f_18_7 h, f_18_8 h, f_18_9 h, f_18_10 h, f_18_11 h, f_18_12 h, f_18_13 h, f_18_14 h, f_18_15 h, f_18_16 h, f_18_17 h, f_18_18 h, f_18_19 h, f_18_20 h, f_18_21 h, f_18_22 h, f_18_23 h, f_18_24 h, f_18_25 h, f_18_26 h, f_18_27 h, rL_21 h, rL_22 h, rL_24 h, rL_25 h, rL_26 h, rL_27 h, rL_29 h, rL_30 h, rL_31 h, rL_32 h, rL_34 h, rL_35 h, rL_36 h, rL_37 h, rL_38 h, rL_39 h, rL_40 h, rL_43 h, rL_44 h, rL_45 h, rL_46 h, rL_47 h, rI_41 h, rI_21 h, rI_22 h, rI_24 h, rI_25 h, rI_26 h, rI_27 h, rI_29 h, rI_30 h, rI_31 h, rI_32 h, rI_34 h, rI_35 h, rI_36 h, rI_37 h, rI_38 h, rI_39 h, rI_40 h, rI_43 h, rI_44 h, rI_45 h, rI_46 h, rI_47 h, p_21 h, p_22 h, p_24 h, p_25 h, p_26 h, p_27 h, p_29 h, p_30 h, p_31 h, p_32 h, p_34 h, p_35 h, p_36 h, p_37 h, p_38 h, p_39 h, p_40 h, p_41 h, p_43 h, p_44 h, p_45 h, p_46 h, p_47 h, k_0 h, k_1 h, k_2 h, k_4 h, k_5 h, k_7 h, k_18 h, if_neg (lt_f (show k ≤ 3 by omega) (show 3 < 2 ^ 31 by decide)), vp_in_nI hm10 (show 10 < 2 ^ 31 by decide), nI_clamp (show m < 2 ^ 31 by omega), cM_1, cM_2, cu_k, s137', s134 h hm10, s135 h hm10, cM_n, cM_u, nI_add, ih]
    by_cases q1 : f.1 m = -1
    · rw [if_pos q1, if_pos q1]
      cases rmG f.1 n.2.1 (GM c) (UM c s) m k
      · simp
      · have e : nI 40 * lbY (c 30 0 m) (nI k) + lbX (c 29 0 m) (c 31 0 m) (nI k) = lbS (GM c m) k := by
          rw [Int32.mul_comm]
          rfl
        simp [e]
    · rw [if_neg q1, if_neg q1]
theorem s138 (h : Lay x l n) (hN : n.2.1 ≤ 10) (hn : c 18 0 13 = nI n.2.1) (hG : NmG n.2.1 (GM c)) {s m : Nat} (hs' : s < 6) (hm : m < n.2.1) {f : S2} : CL x 138 [.ref (l.1 18 0), .int (nI s), .int (nI m)] (Wo x l n (cM c f)) K = K (.inl none) (Wo x l n (cM c (gvF (fun f k => rmG f n.2.1 (GM c) (UM c s) m k) (GM c m) m 4 0 f))) := by
  rw [CL_138]
  simp only [t_138_0, t_138_1, s138_l h hN hn hG hs' hm 4 0 f rfl]
def md2 (N : Nat) (G : Fn2) (u : Fn1) (rk : Int32) (m : Nat) (f : S2) : S2 := if (decide (G m 1 = rk) && onR (u 1) (u 2) (u 3) (u 4) (G m 2) (G m 3)) = true then gvF (fun f k => rmG f N G u m k) (G m) m 4 0 f else f
def md3 (N : Nat) (G : Fn2) (u : Fn1) : Nat → Nat → S2 → S2
  | 0, _, f => f
  | d + 1, sc, f => md3 N G u d sc (itF (md2 N G u (nI (sc + d))) N 0 f)
theorem md3_0 {N : Nat} {G : Fn2} {u : Fn1} {sc : Nat} {f : S2} : md3 N G u 0 sc f = f := rfl
theorem md3_s {N : Nat} {G : Fn2} {u : Fn1} {d sc : Nat} {f : S2} : md3 N G u (d + 1) sc f = md3 N G u d sc (itF (md2 N G u (nI (sc + d))) N 0 f) := rfl
theorem s139_a (h : Lay x l n) {l1 l3 : Option Value} {f g : Fn1} : ∀ (d j : Nat), j + d = 10 → WP x 139 2 [some (.ref (l.1 18 0)), l1, some (.int (nI j)), l3] [] (Wo x l n (cM c (cp j f nn1, cp j g nn1))) mc ms post = WP x 139 2 [some (.ref (l.1 18 0)), l1, some (.int (nI 10)), l3] [] (Wo x l n (cM c (cp 10 f nn1, cp 10 g nn1))) mc ms post
  | 0, j, hj => by
    rw [show j = 10 by omega]
  | d + 1, j, hj => by
    have ih := s139_a h (l1 := l1) (l3 := l3) (f := f) (g := g) d (j + 1) (by omega)
    rw [← ih, t_139_2]
    simp (disch := decide) only [t_139_3, t_139_5, t_139_8, t_139_9, t_139_12, t_139_13, t_139_14, t_139_15, t_139_16, t_139_19, t_139_20, t_139_21, t_139_22, t_139_25, decide_true, decide_false, Bool.not_true, Bool.not_false, Nat.reduceLeDiff, Nat.reduceSub, z0_t, z1_f, z1_t, true_or, or_true,  if_true, if_false, Bool.false_eq_true, aft_v, aft_n, aftN_v, aftN_n, qwV_s, qwV_0, bI_if, bI_ok, bI_ok0, bI_ok1, true_and, f_18_0 h, f_18_1 h, f_18_2 h, f_18_3 h, f_18_4 h, f_18_5 h, f_18_6 h, f_18_7 h, f_18_8 h, f_18_9 h, f_18_10 h, f_18_11 h, f_18_12 h, f_18_13 h, f_18_14 h, f_18_15 h, f_18_16 h, f_18_17 h, f_18_18 h, f_18_19 h, f_18_20 h, f_18_21 h, f_18_22 h, f_18_23 h, f_18_24 h, f_18_25 h, f_18_26 h, f_18_27 h, rL_21 h, rL_22 h, rL_24 h, rL_25 h, rL_26 h, rL_27 h, rL_29 h, rL_30 h, rL_31 h, rL_32 h, rL_34 h, rL_35 h, rL_36 h, rL_37 h, rL_38 h, rL_39 h, rL_40 h, rL_43 h, rL_44 h, rL_45 h, rL_46 h, rL_47 h, rI_41 h, rI_21 h, rI_22 h, rI_24 h, rI_25 h, rI_26 h, rI_27 h, rI_29 h, rI_30 h, rI_31 h, rI_32 h, rI_34 h, rI_35 h, rI_36 h, rI_37 h, rI_38 h, rI_39 h, rI_40 h, rI_43 h, rI_44 h, rI_45 h, rI_46 h, rI_47 h, p_21 h, p_22 h, p_24 h, p_25 h, p_26 h, p_27 h, p_29 h, p_30 h, p_31 h, p_32 h, p_34 h, p_35 h, p_36 h, p_37 h, p_38 h, p_39 h, p_40 h, p_41 h, p_43 h, p_44 h, p_45 h, p_46 h, p_47 h, if_neg (le_f (show j < 10 by omega) (show 10 < 2 ^ 31 by decide)), vp_in_nI (show j < 10 by omega) (show 10 < 2 ^ 31 by decide), nI_clamp (show j < 2 ^ 31 by omega), cM_1, cM_2, cu_k, cM_u, nI_add, cp_u (show (-1 : Int32) = nn1 j from rfl)]
theorem s139_m (h : Lay x l n) (hN : n.2.1 ≤ 10) (hn : c 18 0 13 = nI n.2.1) (hG : NmG n.2.1 (GM c)) {s : Nat} (hs' : s < 6) {rk : Int32} : ∀ (d m : Nat) (f : S2), m + d = n.2.1 → WP x 139 42 [some (.ref (l.1 18 0)), some (.int (nI s)), some (.int rk), some (.int (nI m))] [] (Wo x l n (cM c f)) mc ms post = WP x 139 42 [some (.ref (l.1 18 0)), some (.int (nI s)), some (.int rk), some (.int (nI n.2.1))] [] (Wo x l n (cM c (itF (md2 n.2.1 (GM c) (UM c s) rk) d m f))) mc ms post
  | 0, m, f, hj => by
    rw [show m = n.2.1 by omega, itF_0]
  | d + 1, m, f, hj => by
    have ih := fun f => s139_m h hN hn hG hs' (rk := rk) d (m + 1) f (by omega)
    have hm : m < n.2.1 := by omega
    have hm10 : m < 10 := by omega
    rw [itF_s, ← ih, t_139_42]
    simp (disch := decide) only [t_139_43, t_139_44, t_139_47, t_139_50, t_139_51, t_139_54, t_139_55, t_139_56, t_139_57, t_139_60, t_139_61, t_139_62, t_139_63, t_139_66, t_139_67, t_139_68, t_139_69, t_139_72, t_139_73, t_139_74, t_139_77, t_139_80, t_139_81, t_139_82, t_139_83, t_139_86, t_139_89, decide_true, decide_false, Bool.not_true, Bool.not_false, Nat.reduceLeDiff, Nat.reduceSub, z0_t, z1_f, z1_t, true_or, or_true,  if_true, if_false, Bool.false_eq_true, aft_v, aft_n, aftN_v, aftN_n, qwV_s, qwV_0, bI_if, bI_ok, bI_ok0, bI_ok1, true_and, f_18_0 h, f_18_1 h, f_18_2 h, f_18_3 h, f_18_4 h, f_18_5 h, f_18_6 h, f_18_7 h, f_18_8 h, f_18_9 h, f_18_10 h, f_18_11 h, f_18_12 h, f_18_13 h, f_18_14 h, f_18_15 h, f_18_16 h, f_18_17 h, f_18_18 h, f_18_19 h, f_18_20 h, f_18_21 h, f_18_22 h, f_18_23 h, f_18_24 h, f_18_25 h, f_18_26 h, f_18_27 h, rL_21 h, rL_22 h, rL_24 h, rL_25 h, rL_26 h, rL_27 h, rL_29 h, rL_30 h, rL_31 h, rL_32 h, rL_34 h, rL_35 h, rL_36 h, rL_37 h, rL_38 h, rL_39 h, rL_40 h, rL_43 h, rL_44 h, rL_45 h, rL_46 h, rL_47 h, rI_41 h, k_0 h, k_1 h, k_2 h, k_4 h, k_5 h, k_7 h, k_18 h, cM_n, hn, if_neg (le_f hm (show n.2.1 < 2 ^ 31 by omega)), vp_in_nI hm10 (show 10 < 2 ^ 31 by decide), nI_clamp (show m < 2 ^ 31 by omega), s133 h hs', s138 h hN hn hG hs' hm, nI_add]
    unfold md2
    have e : onR (UM c s 1) (UM c s 2) (UM c s 3) (UM c s 4) (GM c m 2) (GM c m 3) = onR (c 35 0 s) (c 36 0 s) (c 37 0 s) (c 38 0 s) (c 29 0 m) (c 30 0 m) := rfl
    have e2 : GM c m 1 = c 32 0 m := rfl
    rw [e, e2]
    by_cases q1 : c 32 0 m = rk <;> cases onR (c 35 0 s) (c 36 0 s) (c 37 0 s) (c 38 0 s) (c 29 0 m) (c 30 0 m) <;> simp [q1]
theorem s139_l (h : Lay x l n) (hN : n.2.1 ≤ 10) (hn : c 18 0 13 = nI n.2.1) (hG : NmG n.2.1 (GM c)) {s : Nat} (hs' : s < 6) {sc : Nat} (hsc : sc ≤ 3) (hc : c 34 0 s = nI sc) : ∀ (d : Nat) (f : S2) (l3 : Option Value), sc + d ≤ 4 → WP x 139 30 [some (.ref (l.1 18 0)), some (.int (nI s)), some (.int (nI (sc + d) + (-1))), l3] [] (Wo x l n (cM c f)) mc ms post = post (.inl none) (Wo x l n (cM c (md3 n.2.1 (GM c) (UM c s) d sc f)))
  | 0, f, l3, hj => by
    rw [t_139_30]
    simp (disch := decide) only [t_139_31, t_139_32, t_139_35, t_139_36, t_139_37, t_139_40, t_139_41, t_139_43, t_139_44, t_139_47, t_139_50, t_139_51, t_139_54, t_139_55, t_139_56, t_139_57, t_139_60, t_139_61, t_139_62, t_139_63, t_139_66, t_139_67, t_139_68, t_139_69, t_139_72, t_139_73, t_139_74, t_139_77, t_139_80, t_139_81, t_139_82, t_139_83, t_139_86, t_139_89, t_139_92, t_139_95, t_139_98, decide_true, decide_false, Bool.not_true, Bool.not_false, Nat.reduceLeDiff, Nat.reduceSub, z0_t, z1_f, z1_t, true_or, or_true,  if_true, if_false, Bool.false_eq_true, aft_v, aft_n, aftN_v, aftN_n, qwV_s, qwV_0, bI_if, bI_ok, bI_ok0, bI_ok1, true_and, f_18_0 h, f_18_1 h, f_18_2 h, f_18_3 h, f_18_4 h, f_18_5 h, f_18_6 h, f_18_7 h, f_18_8 h, f_18_9 h, f_18_10 h, f_18_11 h, f_18_12 h, f_18_13 h, f_18_14 h, f_18_15 h, f_18_16 h, f_18_17 h, f_18_18 h, f_18_19 h, f_18_20 h, f_18_21 h, f_18_22 h, f_18_23 h, f_18_24 h, f_18_25 h, f_18_26 h, f_18_27 h, rL_21 h, rL_22 h, rL_24 h, rL_25 h, rL_26 h, rL_27 h, rL_29 h, rL_30 h, rL_31 h, rL_32 h, rL_34 h, rL_35 h, rL_36 h, rL_37 h, rL_38 h, rL_39 h, rL_40 h, rL_43 h, rL_44 h, rL_45 h, rL_46 h, rL_47 h, rI_41 h, cM_n, vp_in_nI hs' (show 6 < 2 ^ 31 by decide), nI_clamp (show s < 2 ^ 31 by omega), hc, if_pos (rk_lt sc hsc), Nat.add_zero, md3_0]
  | d + 1, f, l3, hj => by
    have ih := fun f l3 => s139_l h hN hn hG hs' hsc hc d f l3 (by omega)
    rw [t_139_30, show nI (sc + (d + 1)) + (-1) = nI (sc + d) from pk_m1 (sc + d)]
    simp (disch := decide) only [t_139_31, t_139_32, t_139_35, t_139_36, t_139_37, t_139_40, t_139_41, decide_true, decide_false, Bool.not_true, Bool.not_false, Nat.reduceLeDiff, Nat.reduceSub, z0_t, z1_f, z1_t, true_or, or_true,  if_true, if_false, Bool.false_eq_true, aft_v, aft_n, aftN_v, aftN_n, qwV_s, qwV_0, bI_if, bI_ok, bI_ok0, bI_ok1, true_and, f_18_0 h, f_18_1 h, f_18_2 h, f_18_3 h, f_18_4 h, f_18_5 h, f_18_6 h, f_18_7 h, f_18_8 h, f_18_9 h, f_18_10 h, f_18_11 h, f_18_12 h, f_18_13 h, f_18_14 h, f_18_15 h, f_18_16 h, f_18_17 h, f_18_18 h, f_18_19 h, f_18_20 h, f_18_21 h, f_18_22 h, f_18_23 h, f_18_24 h, f_18_25 h, f_18_26 h, f_18_27 h, rL_21 h, rL_22 h, rL_24 h, rL_25 h, rL_26 h, rL_27 h, rL_29 h, rL_30 h, rL_31 h, rL_32 h, rL_34 h, rL_35 h, rL_36 h, rL_37 h, rL_38 h, rL_39 h, rL_40 h, rL_43 h, rL_44 h, rL_45 h, rL_46 h, rL_47 h, rI_41 h, cM_n, vp_in_nI hs' (show 6 < 2 ^ 31 by decide), nI_clamp (show s < 2 ^ 31 by omega), hc, if_neg (lt_f (show sc ≤ sc + d by omega) (show sc + d < 2 ^ 31 by omega)), s139_m h hN hn hG hs' n.2.1 0 f (Nat.zero_add _)]
    rw [t_139_42]
    simp (disch := decide) only [t_139_43, t_139_44, t_139_47, t_139_50, t_139_51, t_139_54, t_139_55, t_139_56, t_139_57, t_139_60, t_139_61, t_139_62, t_139_63, t_139_66, t_139_67, t_139_68, t_139_69, t_139_72, t_139_73, t_139_74, t_139_77, t_139_80, t_139_81, t_139_82, t_139_83, t_139_86, t_139_89, t_139_92, t_139_95, t_139_98, decide_true, decide_false, Bool.not_true, Bool.not_false, Nat.reduceLeDiff, Nat.reduceSub, z0_t, z1_f, z1_t, true_or, or_true,  if_true, if_false, Bool.false_eq_true, aft_v, aft_n, aftN_v, aftN_n, qwV_s, qwV_0, bI_if, bI_ok, bI_ok0, bI_ok1, true_and, f_18_0 h, f_18_1 h, f_18_2 h, f_18_3 h, f_18_4 h, f_18_5 h, f_18_6 h, f_18_7 h, f_18_8 h, f_18_9 h, f_18_10 h, f_18_11 h, f_18_12 h, f_18_13 h, f_18_14 h, f_18_15 h, f_18_16 h, f_18_17 h, f_18_18 h, f_18_19 h, f_18_20 h, f_18_21 h, f_18_22 h, f_18_23 h, f_18_24 h, f_18_25 h, f_18_26 h, f_18_27 h, rL_21 h, rL_22 h, rL_24 h, rL_25 h, rL_26 h, rL_27 h, rL_29 h, rL_30 h, rL_31 h, rL_32 h, rL_34 h, rL_35 h, rL_36 h, rL_37 h, rL_38 h, rL_39 h, rL_40 h, rL_43 h, rL_44 h, rL_45 h, rL_46 h, rL_47 h, rI_41 h, cM_n, hn, if_pos (le_t (Nat.le_refl n.2.1) (show n.2.1 < 2 ^ 31 by omega)), ih, md3_s]
def mdA (N : Nat) (G : Fn2) (u f g : Fn1) (sc : Nat) : S2 := md3 N G u (4 - sc) sc (cp 10 f nn1, cp 10 g nn1)
theorem s139 (h : Lay x l n) (hN : n.2.1 ≤ 10) (hn : c 18 0 13 = nI n.2.1) (hG : NmG n.2.1 (GM c)) {s : Nat} (hs' : s < 6) {sc : Nat} (hsc : sc ≤ 3) (hc : c 34 0 s = nI sc) : CL x 139 [.ref (l.1 18 0), .int (nI s)] (Wo x l n c) K = K (.inl none) (Wo x l n (cM c (mdA n.2.1 (GM c) (UM c s) (c 47 0) (c 46 0) sc))) := by
  rw [CL_139]
  have a := s139_a h (c := c) (l1 := some (.int (nI s))) (l3 := none) (f := c 47 0) (g := c 46 0) (mc := 0) (ms := 0) (post := K) 10 0 rfl
  rw [cp_0, cp_0, show cM c (c 47 0, c 46 0) = c by unfold cM; rw [cu_id, cu_id]] at a
  have b := fun l3 => s139_l h hN hn hG hs' hsc hc (mc := 0) (ms := 0) (post := K) (4 - sc) (cp 10 (c 47 0) nn1, cp 10 (c 46 0) nn1) l3 (by omega)
  rw [show sc + (4 - sc) = 3 + 1 by omega, pk_m1] at b
  simp only [t_139_0, t_139_1, a]
  rw [t_139_2]
  simp only [t_139_3, t_139_5, t_139_8, t_139_9, t_139_12, t_139_13, t_139_14, t_139_15, t_139_16, t_139_19, t_139_20, t_139_21, t_139_22, t_139_25, t_139_28, t_139_29, if_pos (le_t (Nat.le_refl 10) (show 10 < 2 ^ 31 by decide)), b, mdA]
end
