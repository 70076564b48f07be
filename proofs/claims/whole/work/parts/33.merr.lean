/-- what holds of the model's state between calls -/
def MI (n : Nn) (c : Cc) : Prop := c 18 0 8 = nI n.1 ∧ c 18 0 13 = nI n.2.1 ∧ c 18 0 22 = nI n.2.2.1 ∧ n.1 ≤ 8 ∧ n.2.1 ≤ 10 ∧ n.2.2.1 ≤ 6 ∧ SzM n.1 (c 26 0) ∧ NmG n.2.1 (GM c) ∧ (∀ s, s < n.2.2.1 → c 34 0 s = nI (szN (c 34 0) s) ∧ szN (c 34 0) s ≤ 3 ∧ c 41 0 s = bI (prB (c 41 0 s)))
theorem GM_e {c c' : Cc} (h1 : c' 29 = c 29) (h2 : c' 30 = c 30) (h3 : c' 31 = c 31) (h4 : c' 32 = c 32) : GM c' = GM c := by
  funext m j
  unfold GM
  rw [h1, h2, h3, h4]
theorem UM_e {c c' : Cc} {s : Nat} (h1 : c' 34 = c 34) (h2 : c' 35 = c 35) (h3 : c' 36 = c 36) (h4 : c' 37 = c 37) (h5 : c' 38 = c 38) (h6 : c' 39 = c 39) : UM c' s = UM c s := by
  funext j
  unfold UM
  rw [h1, h2, h3, h4, h5, h6]
theorem MI_e {n : Nn} {c c' : Cc} (h : MI n c) (a1 : c' 18 0 8 = c 18 0 8) (a2 : c' 18 0 13 = c 18 0 13) (a3 : c' 18 0 22 = c 18 0 22) (a4 : c' 26 = c 26) (h1 : c' 29 = c 29) (h2 : c' 30 = c 30) (h3 : c' 31 = c 31) (h4 : c' 32 = c 32) (h5 : c' 34 = c 34) (h6 : c' 41 = c 41) : MI n c' := by
  unfold MI
  rw [a1, a2, a3, a4, h5, h6, GM_e h1 h2 h3 h4]
  exact h
theorem MI_th {n : Nn} {c : Cc} {v : Int32} (h : MI n c) : MI n (thC c v) := MI_e h (thC_f (by decide)) (thC_f (by decide)) (thC_f (by decide)) (thC_n (by decide)) (thC_n (by decide)) (thC_n (by decide)) (thC_n (by decide)) (thC_n (by decide)) (thC_n (by decide)) (thC_n (by decide))
theorem MI_cM {n : Nn} {c : Cc} {f : S2} (h : MI n c) : MI n (cM c f) := by
  have e : cM c f 18 = c 18 := cM_n (by decide) (by decide)
  exact MI_e h (by rw [e]) (by rw [e]) (by rw [e]) (cM_n (by decide) (by decide)) (cM_n (by decide) (by decide)) (cM_n (by decide) (by decide)) (cM_n (by decide) (by decide)) (cM_n (by decide) (by decide)) (cM_n (by decide) (by decide)) (cM_n (by decide) (by decide))
theorem GM_th {c : Cc} {v : Int32} : GM (thC c v) = GM c := GM_e (thC_n (by decide)) (thC_n (by decide)) (thC_n (by decide)) (thC_n (by decide))
theorem UM_th {c : Cc} {v : Int32} {s : Nat} : UM (thC c v) s = UM c s := UM_e (thC_n (by decide)) (thC_n (by decide)) (thC_n (by decide)) (thC_n (by decide)) (thC_n (by decide)) (thC_n (by decide))
def lblM (n : Nn) (c : Cc) (s : Nat) : S2 := mdA n.2.1 (GM c) (UM c s) (c 47 0) (c 46 0) (szN (c 34 0) s)
theorem lblM_th {n : Nn} {c : Cc} {v : Int32} {s : Nat} : lblM n (thC c v) s = lblM n c s := by
  unfold lblM
  rw [GM_th, UM_th, thC_n (by decide), thC_n (by decide), thC_n (by decide)]
abbrev lfM (c : Cc) (N r : Nat) (s : Int32) : Int32 := leftM (c 24 0) (c 25 0) (c 26 0) (c 27 0) N r s
def dwM (n : Nn) (c : Cc) (s r : Nat) : Int32 := if anyB (fun p => hs (lfM c n.1 r (c 34 0 s)) (nI p) && onR (c 35 0 s) (c 36 0 s) (c 37 0 s) (c 38 0 s) (c 24 0 (8 * r + p)) (c 25 0 (8 * r + p))) 8 0 = true then lfM c n.1 r (c 34 0 s) else nI 0
def lkF (bit : Nat → Bool) (old code : Nat → Int32) : Nat → Nat → Nat → Bool
  | 0, _, _ => true
  | d + 1, p, k => if bit p = true then (decide (old k = code p) && lkF bit old code d (p + 1) (k + 1)) else lkF bit old code d (p + 1) k
theorem lkF_0 {bit : Nat → Bool} {old code : Nat → Int32} {p k : Nat} : lkF bit old code 0 p k = true := rfl
theorem lkF_s {bit : Nat → Bool} {old code : Nat → Int32} {d p k : Nat} : lkF bit old code (d + 1) p k = if bit p = true then (decide (old k = code p) && lkF bit old code d (p + 1) (k + 1)) else lkF bit old code d (p + 1) k := rfl
abbrev cdM (c : Cc) (r : Nat) : Nat → Int32 := fun p => nI 40 * c 25 0 (8 * r + p) + c 24 0 (8 * r + p)
def lkM (n : Nn) (c : Cc) (s r : Nat) : Bool := decide (cnt8 (dwM n c s r) = c 44 0 (8 * s + r)) && lkF (fun p => hs (dwM n c s r) (nI p)) (fun k => c 45 0 (8 * (8 * s + r) + k)) (cdM c r) 8 0 0
def laF (g : Nat → Bool) : Nat → Nat → Int32 → Int32
  | 0, _, a => a
  | d + 1, j, a => laF g d (j + 1) (if g j = true then nI j else a)
theorem laF_0 {g : Nat → Bool} {j : Nat} {a : Int32} : laF g 0 j a = a := rfl
theorem laF_s {g : Nat → Bool} {d j : Nat} {a : Int32} : laF g (d + 1) j a = laF g d (j + 1) (if g j = true then nI j else a) := rfl
section
variable {x : Cx} {l : Ly} {n : Nn} {c : Cc} {mc ms : Nat} {w : Wd} {K post : Po}
theorem s139w (h : Lay x l n) (hI : MI n c) {s : Nat} (hs' : s < n.2.2.1) : CL x 139 [.ref (l.1 18 0), .int (nI s)] (Wo x l n c) K = K (.inl none) (Wo x l n (cM c (lblM n c s))) := by
  obtain ⟨h1, h2, h3, h4, h5, h6, h7, h8, h9⟩ := hI
  exact s139 h h5 h2 h8 (show s < 6 by omega) (h9 s hs').2.1 (h9 s hs').1
theorem s142_l (h : Lay x l n) {s r : Nat} (hs' : s < 6) (hr : r < 8) {S : Int32} : ∀ (d p : Nat) (u : Bool), p + d = 8 → WP x 142 18 [some (.ref (l.1 18 0)), some (.int (nI s)), some (.int (nI r)), some (.int S), some (.int (bI u)), some (.int (nI p))] [] (Wo x l n c) mc ms post = post (.inl (some (.int (if (u || anyB (fun p => hs S (nI p) && onR (c 35 0 s) (c 36 0 s) (c 37 0 s) (c 38 0 s) (c 24 0 (8 * r + p)) (c 25 0 (8 * r + p))) d p) = true then S else nI 0)))) (Wo x l n c)
  | 0, p, u, hj => by
    rw [t_142_18]
    simp only [t_142_20, t_142_22, t_142_25, t_142_27, t_142_30, t_142_31, t_142_33, t_142_36, t_142_39, t_142_40, t_142_41, t_142_42, t_142_45, t_142_47, t_142_48, t_142_49, t_142_51, t_142_52, t_142_53, t_142_54, t_142_57, t_142_59, t_142_60, t_142_61, t_142_63, t_142_64, t_142_65, t_142_68, t_142_71, t_142_72, t_142_75, t_142_76, t_142_78, t_142_81, t_142_84, t_142_86, t_142_89, t_142_90, t_142_93, t_142_94, decide_true, decide_false, Bool.not_true, Bool.not_false, Nat.reduceLeDiff, Nat.reduceSub, z0_t, z1_f, z1_t, true_or, or_true,  if_true, if_false, Bool.false_eq_true, aft_v, aft_n, aftN_v, aftN_n, qwV_s, qwV_0, bI_if, bI_ok, bI_ok0, bI_ok1, true_and, if_pos (le_t (show 8 ≤ p by omega) (show p < 2 ^ 31 by omega)), anyB_0, Bool.or_false]
    cases u <;> simp
  | d + 1, p, u, hj => by
    have ih := fun u => s142_l h hs' hr (S := S) d (p + 1) u (by omega)
    have i0 := ih false
    have i1 := ih true
    rw [bI_f] at i0
    rw [bI_t] at i1
    rw [t_142_18, anyB_s, ← Bool.or_assoc]
    simp only [t_142_20, t_142_22, t_142_25, t_142_27, t_142_30, t_142_31, t_142_33, t_142_36, t_142_39, t_142_40, t_142_41, t_142_42, t_142_45, t_142_47, t_142_48, t_142_49, t_142_51, t_142_52, t_142_53, t_142_54, t_142_57, t_142_59, t_142_60, t_142_61, t_142_63, t_142_64, t_142_65, t_142_68, t_142_71, t_142_72, t_142_75, t_142_76, t_142_78, t_142_81, t_142_84, t_142_86, t_142_89, t_142_90, t_142_93, t_142_94, decide_true, decide_false, Bool.not_true, Bool.not_false, Nat.reduceLeDiff, Nat.reduceSub, z0_t, z1_f, z1_t, true_or, or_true,  if_true, if_false, Bool.false_eq_true, aft_v, aft_n, aftN_v, aftN_n, qwV_s, qwV_0, bI_if, bI_ok, bI_ok0, bI_ok1, true_and, f_18_0 h, f_18_1 h, f_18_2 h, f_18_3 h, f_18_4 h, f_18_5 h, f_18_6 h, f_18_7 h, f_18_8 h, f_18_9 h, f_18_10 h, f_18_11 h, f_18_12 h, f_18_13 h, f_18_14 h, f_18_15 h, f_18_16 h, f_18_17 h, f_18_18 h, f_18_19 h, f_18_20 h, f_18_21 h, f_18_22 h, f_18_23 h, f_18_24 h, f_18_25 h, f_18_26 h, f_18_27 h, rL_21 h, rL_22 h, rL_24 h, rL_25 h, rL_26 h, rL_27 h, rL_29 h, rL_30 h, rL_31 h, rL_32 h, rL_34 h, rL_35 h, rL_36 h, rL_37 h, rL_38 h, rL_39 h, rL_40 h, rL_43 h, rL_44 h, rL_45 h, rL_46 h, rL_47 h, rI_41 h, k_0 h, k_1 h, k_2 h, k_4 h, k_5 h, k_7 h, k_18 h, if_neg (le_f (show p < 8 by omega) (show 8 < 2 ^ 31 by decide)), s113, pk_mul, nI_add, vp_in_nI (show 8 * r + p < 64 by omega) (show 64 < 2 ^ 31 by decide), nI_clamp (show 8 * r + p < 2 ^ 31 by omega), s133 h hs', i0, i1]
    cases u <;> cases hs S (nI p) <;> cases onR (c 35 0 s) (c 36 0 s) (c 37 0 s) (c 38 0 s) (c 24 0 (8 * r + p)) (c 25 0 (8 * r + p)) <;> simp
theorem s142 (h : Lay x l n) (hI : MI n c) {s r : Nat} (hs' : s < n.2.2.1) (hr : r < n.1) : CL x 142 [.ref (l.1 18 0), .int (nI s), .int (nI r)] (Wo x l n c) K = K (.inl (some (.int (dwM n c s r)))) (Wo x l n c) := by
  obtain ⟨h1, h2, h3, h4, h5, h6, h7, h8, h9⟩ := hI
  have e := s142_l h (show s < 6 by omega) (show r < 8 by omega) (S := lfM c n.1 r (c 34 0 s)) (c := c) (mc := 0) (ms := 0) (post := K) 8 0 false rfl
  rw [bI_f, Bool.false_or] at e
  rw [CL_142]
  simp only [t_142_0, t_142_1, t_142_2, t_142_3, t_142_6, t_142_7, t_142_8, t_142_11, t_142_12, t_142_13, t_142_15, t_142_16, decide_true, decide_false, Bool.not_true, Bool.not_false, Nat.reduceLeDiff, Nat.reduceSub, z0_t, z1_f, z1_t, true_or, or_true,  if_true, if_false, Bool.false_eq_true, aft_v, aft_n, aftN_v, aftN_n, qwV_s, qwV_0, bI_if, bI_ok, bI_ok0, bI_ok1, true_and, f_18_0 h, f_18_1 h, f_18_2 h, f_18_3 h, f_18_4 h, f_18_5 h, f_18_6 h, f_18_7 h, f_18_8 h, f_18_9 h, f_18_10 h, f_18_11 h, f_18_12 h, f_18_13 h, f_18_14 h, f_18_15 h, f_18_16 h, f_18_17 h, f_18_18 h, f_18_19 h, f_18_20 h, f_18_21 h, f_18_22 h, f_18_23 h, f_18_24 h, f_18_25 h, f_18_26 h, f_18_27 h, rL_21 h, rL_22 h, rL_24 h, rL_25 h, rL_26 h, rL_27 h, rL_29 h, rL_30 h, rL_31 h, rL_32 h, rL_34 h, rL_35 h, rL_36 h, rL_37 h, rL_38 h, rL_39 h, rL_40 h, rL_43 h, rL_44 h, rL_45 h, rL_46 h, rL_47 h, rI_41 h, k_0 h, k_1 h, k_2 h, k_4 h, k_5 h, k_7 h, k_18 h, vp_in_nI (show s < 6 by omega) (show 6 < 2 ^ 31 by decide), nI_clamp (show s < 2 ^ 31 by omega), s124 h h4 h1 h7 hr]
  exact e
theorem s143_l (h : Lay x l n) {s r : Nat} (hs' : s < 6) (hr : r < 8) {S : Int32} {l1 : Option Value} : ∀ (d p k : Nat) (u : Bool), p + d = 8 → k ≤ p → WP x 143 42 [some (.ref (l.1 18 0)), l1, some (.int (nI r)), some (.int S), some (.int (nI (8 * s + r))), some (.int (bI u)), some (.int (nI k)), some (.int (nI p))] [] (Wo x l n c) mc ms post = post (.inl (some (.int (bI (u && lkF (fun p => hs S (nI p)) (fun k => c 45 0 (8 * (8 * s + r) + k)) (cdM c r) d p k))))) (Wo x l n c)
  | 0, p, k, u, hj, hk => by
    rw [t_143_42]
    simp only [t_143_44, t_143_46, t_143_49, t_143_51, t_143_54, t_143_55, t_143_57, t_143_60, t_143_63, t_143_64, t_143_67, t_143_69, t_143_71, t_143_72, t_143_74, t_143_75, t_143_76, t_143_78, t_143_79, t_143_82, t_143_84, t_143_85, t_143_86, t_143_88, t_143_89, t_143_90, t_143_91, t_143_92, t_143_95, t_143_97, t_143_98, t_143_99, t_143_101, t_143_102, t_143_103, t_143_104, t_143_107, t_143_108, t_143_111, t_143_112, t_143_114, t_143_117, t_143_120, t_143_123, t_143_125, decide_true, decide_false, Bool.not_true, Bool.not_false, Nat.reduceLeDiff, Nat.reduceSub, z0_t, z1_f, z1_t, true_or, or_true,  if_true, if_false, Bool.false_eq_true, aft_v, aft_n, aftN_v, aftN_n, qwV_s, qwV_0, bI_if, bI_ok, bI_ok0, bI_ok1, true_and, if_pos (le_t (show 8 ≤ p by omega) (show p < 2 ^ 31 by omega)), lkF_0, Bool.and_true]
  | d + 1, p, k, u, hj, hk => by
    have ih := fun k u hk => s143_l h hs' hr (S := S) (l1 := l1) d (p + 1) k u (by omega) hk
    have i0 := ih (k + 1) false (by omega)
    have i1 := ih (k + 1) true (by omega)
    have i2 := ih k true (by omega)
    rw [bI_f] at i0
    rw [bI_t] at i1 i2
    rw [t_143_42]
    have hpp : 8 * (8 * s + r) + k < 384 := by omega
    cases u
    · simp only [t_143_44, t_143_46, t_143_49, t_143_51, t_143_54, t_143_55, t_143_57, t_143_60, t_143_63, t_143_64, t_143_67, t_143_69, t_143_71, t_143_72, t_143_74, t_143_75, t_143_76, t_143_78, t_143_79, t_143_82, t_143_84, t_143_85, t_143_86, t_143_88, t_143_89, t_143_90, t_143_91, t_143_92, t_143_95, t_143_97, t_143_98, t_143_99, t_143_101, t_143_102, t_143_103, t_143_104, t_143_107, t_143_108, t_143_111, t_143_112, t_143_114, t_143_117, t_143_120, t_143_123, t_143_125, decide_true, decide_false, Bool.not_true, Bool.not_false, Nat.reduceLeDiff, Nat.reduceSub, z0_t, z1_f, z1_t, true_or, or_true,  if_true, if_false, Bool.false_eq_true, aft_v, aft_n, aftN_v, aftN_n, qwV_s, qwV_0, bI_if, bI_ok, bI_ok0, bI_ok1, true_and, if_neg (le_f (show p < 8 by omega) (show 8 < 2 ^ 31 by decide)), bI_f, Bool.false_and]
    · simp only [t_143_44, t_143_46, t_143_49, t_143_51, t_143_54, t_143_55, t_143_57, t_143_60, t_143_63, t_143_64, t_143_67, t_143_69, t_143_71, t_143_72, t_143_74, t_143_75, t_143_76, t_143_78, t_143_79, t_143_82, t_143_84, t_143_85, t_143_86, t_143_88, t_143_89, t_143_90, t_143_91, t_143_92, t_143_95, t_143_97, t_143_98, t_143_99, t_143_101, t_143_102, t_143_103, t_143_104, t_143_107, t_143_108, t_143_111, t_143_112, t_143_114, t_143_117, t_143_120, t_143_123, t_143_125, decide_true, decide_false, Bool.not_true, Bool.not_false, Nat.reduceLeDiff, Nat.reduceSub, z0_t, z1_f, z1_t, true_or, or_true,  if_true, if_false, Bool.false_eq_true, aft_v, aft_n, aftN_v, aftN_n, qwV_s, qwV_0, bI_if, bI_ok, bI_ok0, bI_ok1, true_and, f_18_0 h, f_18_1 h, f_18_2 h, f_18_3 h, f_18_4 h, f_18_5 h, f_18_6 h, f_18_7 h, f_18_8 h, f_18_9 h, f_18_10 h, f_18_11 h, f_18_12 h, f_18_13 h, f_18_14 h, f_18_15 h, f_18_16 h, f_18_17 h, f_18_18 h, f_18_19 h, f_18_20 h, f_18_21 h, f_18_22 h, f_18_23 h, f_18_24 h, f_18_25 h, f_18_26 h, f_18_27 h, rL_21 h, rL_22 h, rL_24 h, rL_25 h, rL_26 h, rL_27 h, rL_29 h, rL_30 h, rL_31 h, rL_32 h, rL_34 h, rL_35 h, rL_36 h, rL_37 h, rL_38 h, rL_39 h, rL_40 h, rL_43 h, rL_44 h, rL_45 h, rL_46 h, rL_47 h, rI_41 h, k_0 h, k_1 h, k_2 h, k_4 h, k_5 h, k_7 h, k_18 h, if_neg (le_f (show p < 8 by omega) (show 8 < 2 ^ 31 by decide)), bI_t, s113, pk_mul, nI_add, vp_in_nI (show 8 * r + p < 64 by omega) (show 64 < 2 ^ 31 by decide), nI_clamp (show 8 * r + p < 2 ^ 31 by omega), vp_in_nI hpp (show 384 < 2 ^ 31 by decide), nI_clamp (show 8 * (8 * s + r) + k < 2 ^ 31 by omega), i0, i1, i2]
      rw [lkF_s]
      cases hs S (nI p)
      · simp
      · by_cases q : c 45 0 (8 * (8 * s + r) + k) = nI 40 * c 25 0 (8 * r + p) + c 24 0 (8 * r + p) <;> simp [q]
theorem s143 (h : Lay x l n) (hI : MI n c) {s r : Nat} (hs' : s < n.2.2.1) (hr : r < n.1) : CL x 143 [.ref (l.1 18 0), .int (nI s), .int (nI r)] (Wo x l n c) K = K (.inl (some (.int (bI (lkM n c s r))))) (Wo x l n c) := by
  have hI0 := hI
  obtain ⟨h1, h2, h3, h4, h5, h6, h7, h8, h9⟩ := hI0
  have e := fun u => s143_l h (show s < 6 by omega) (show r < 8 by omega) (S := dwM n c s r) (l1 := some (.int (nI s))) (c := c) (mc := 0) (ms := 0) (post := K) 8 0 0 u rfl (Nat.le_refl 0)
  have e0 := e false
  have e1 := e true
  rw [bI_f] at e0
  rw [bI_t] at e1
  rw [CL_143]
  simp only [t_143_0, t_143_1, t_143_2, t_143_3, t_143_6, t_143_7, t_143_9, t_143_10, t_143_11, t_143_12, t_143_13, t_143_15, t_143_16, t_143_19, t_143_20, t_143_23, t_143_25, t_143_26, t_143_29, t_143_30, t_143_33, t_143_34, t_143_36, t_143_37, t_143_39, t_143_40, decide_true, decide_false, Bool.not_true, Bool.not_false, Nat.reduceLeDiff, Nat.reduceSub, z0_t, z1_f, z1_t, true_or, or_true,  if_true, if_false, Bool.false_eq_true, aft_v, aft_n, aftN_v, aftN_n, qwV_s, qwV_0, bI_if, bI_ok, bI_ok0, bI_ok1, true_and, f_18_0 h, f_18_1 h, f_18_2 h, f_18_3 h, f_18_4 h, f_18_5 h, f_18_6 h, f_18_7 h, f_18_8 h, f_18_9 h, f_18_10 h, f_18_11 h, f_18_12 h, f_18_13 h, f_18_14 h, f_18_15 h, f_18_16 h, f_18_17 h, f_18_18 h, f_18_19 h, f_18_20 h, f_18_21 h, f_18_22 h, f_18_23 h, f_18_24 h, f_18_25 h, f_18_26 h, f_18_27 h, rL_21 h, rL_22 h, rL_24 h, rL_25 h, rL_26 h, rL_27 h, rL_29 h, rL_30 h, rL_31 h, rL_32 h, rL_34 h, rL_35 h, rL_36 h, rL_37 h, rL_38 h, rL_39 h, rL_40 h, rL_43 h, rL_44 h, rL_45 h, rL_46 h, rL_47 h, rI_41 h, k_0 h, k_1 h, k_2 h, k_4 h, k_5 h, k_7 h, k_18 h, s142 h hI hs' hr, s125, pk_mul, nI_add, vp_in_nI (show 8 * s + r < 48 by omega) (show 48 < 2 ^ 31 by decide), nI_clamp (show 8 * s + r < 2 ^ 31 by omega), e0, e1]
  unfold lkM
  by_cases q : cnt8 (dwM n c s r) = c 44 0 (8 * s + r) <;> simp [q]
theorem dwM_M {f : S2} {s r : Nat} : dwM n (cM c f) s r = dwM n c s r := by
  unfold dwM lfM
  simp (disch := decide) only [cM_n]
theorem lkM_M {f : S2} {s r : Nat} : lkM n (cM c f) s r = lkM n c s r := by
  unfold lkM cdM
  rw [dwM_M]
  simp (disch := decide) only [cM_n]
def errM (n : Nn) (c : Cc) (s : Nat) : Int32 := if prB (c 41 0 s) = true then cntI (fun r => !lkM n c s r) n.1 0 (cntI (fun m => !decide ((lblM n c s).1 m = c 43 0 (10 * s + m))) n.2.1 0 (nI 0)) else nI 0
def erC (n : Nn) (c : Cc) (s : Nat) : Cc := if prB (c 41 0 s) = true then cM c (lblM n c s) else c
theorem s144_a (h : Lay x l n) (hN : n.2.1 ≤ 10) (hn : c 18 0 13 = nI n.2.1) {s : Nat} (hs' : s < 6) : ∀ (d j : Nat) (a : Int32), j + d = n.2.1 → WP x 144 20 [some (.ref (l.1 18 0)), some (.int (nI s)), some (.int a), some (.int (nI j))] [] (Wo x l n c) mc ms post = WP x 144 20 [some (.ref (l.1 18 0)), some (.int (nI s)), some (.int (cntI (fun m => !decide (c 47 0 m = c 43 0 (10 * s + m))) d j a)), some (.int (nI n.2.1))] [] (Wo x l n c) mc ms post
  | 0, j, a, hj => by
    rw [show j = n.2.1 by omega, cntI_0]
  | d + 1, j, a, hj => by
    have ih := fun a => s144_a h hN hn hs' d (j + 1) a (by omega)
    have hjN : j < n.2.1 := by omega
    rw [cntI_s, ← ih, t_144_20]
    simp only [t_144_21, t_144_22, t_144_25, t_144_28, t_144_29, t_144_30, t_144_33, t_144_34, t_144_35, t_144_36, t_144_39, t_144_41, t_144_42, t_144_43, t_144_44, t_144_45, t_144_46, t_144_49, t_144_50, t_144_53, t_144_54, t_144_55, t_144_56, t_144_59, decide_true, decide_false, Bool.not_true, Bool.not_false, Nat.reduceLeDiff, Nat.reduceSub, z0_t, z1_f, z1_t, true_or, or_true,  if_true, if_false, Bool.false_eq_true, aft_v, aft_n, aftN_v, aftN_n, qwV_s, qwV_0, bI_if, bI_ok, bI_ok0, bI_ok1, true_and, f_18_0 h, f_18_1 h, f_18_2 h, f_18_3 h, f_18_4 h, f_18_5 h, f_18_6 h, f_18_7 h, f_18_8 h, f_18_9 h, f_18_10 h, f_18_11 h, f_18_12 h, f_18_13 h, f_18_14 h, f_18_15 h, f_18_16 h, f_18_17 h, f_18_18 h, f_18_19 h, f_18_20 h, f_18_21 h, f_18_22 h, f_18_23 h, f_18_24 h, f_18_25 h, f_18_26 h, f_18_27 h, rL_21 h, rL_22 h, rL_24 h, rL_25 h, rL_26 h, rL_27 h, rL_29 h, rL_30 h, rL_31 h, rL_32 h, rL_34 h, rL_35 h, rL_36 h, rL_37 h, rL_38 h, rL_39 h, rL_40 h, rL_43 h, rL_44 h, rL_45 h, rL_46 h, rL_47 h, rI_41 h, hn, if_neg (le_f hjN (show n.2.1 < 2 ^ 31 by omega)), pk_mul, nI_add, vp_in_nI (show j < 10 by omega) (show 10 < 2 ^ 31 by decide), nI_clamp (show j < 2 ^ 31 by omega), vp_in_nI (show 10 * s + j < 60 by omega) (show 60 < 2 ^ 31 by decide), nI_clamp (show 10 * s + j < 2 ^ 31 by omega)]
    by_cases q : c 47 0 j = c 43 0 (10 * s + j) <;> simp [q, nI_0]
theorem s144_b (h : Lay x l n) (hI : MI n c) {s : Nat} (hs' : s < n.2.2.1) : ∀ (d j : Nat) (a : Int32), j + d = n.1 → WP x 144 64 [some (.ref (l.1 18 0)), some (.int (nI s)), some (.int a), some (.int (nI j))] [] (Wo x l n c) mc ms post = post (.inl (some (.int (cntI (fun r => !lkM n c s r) d j a)))) (Wo x l n c)
  | 0, j, a, hj => by
    have hI0 := hI
    obtain ⟨h1, h2, h3, h4, h5, h6, h7, h8, h9⟩ := hI0
    rw [t_144_64]
    simp only [t_144_65, t_144_66, t_144_69, t_144_72, t_144_73, t_144_74, t_144_75, t_144_76, t_144_79, t_144_82, t_144_83, t_144_86, t_144_87, t_144_88, t_144_89, t_144_92, t_144_95, t_144_96, decide_true, decide_false, Bool.not_true, Bool.not_false, Nat.reduceLeDiff, Nat.reduceSub, z0_t, z1_f, z1_t, true_or, or_true,  if_true, if_false, Bool.false_eq_true, aft_v, aft_n, aftN_v, aftN_n, qwV_s, qwV_0, bI_if, bI_ok, bI_ok0, bI_ok1, true_and, f_18_0 h, f_18_1 h, f_18_2 h, f_18_3 h, f_18_4 h, f_18_5 h, f_18_6 h, f_18_7 h, f_18_8 h, f_18_9 h, f_18_10 h, f_18_11 h, f_18_12 h, f_18_13 h, f_18_14 h, f_18_15 h, f_18_16 h, f_18_17 h, f_18_18 h, f_18_19 h, f_18_20 h, f_18_21 h, f_18_22 h, f_18_23 h, f_18_24 h, f_18_25 h, f_18_26 h, f_18_27 h, rL_21 h, rL_22 h, rL_24 h, rL_25 h, rL_26 h, rL_27 h, rL_29 h, rL_30 h, rL_31 h, rL_32 h, rL_34 h, rL_35 h, rL_36 h, rL_37 h, rL_38 h, rL_39 h, rL_40 h, rL_43 h, rL_44 h, rL_45 h, rL_46 h, rL_47 h, rI_41 h, h1, if_pos (le_t (show n.1 ≤ j by omega) (show j < 2 ^ 31 by omega)), cntI_0]
  | d + 1, j, a, hj => by
    have hI0 := hI
    obtain ⟨h1, h2, h3, h4, h5, h6, h7, h8, h9⟩ := hI0
    have ih := fun a => s144_b h hI hs' d (j + 1) a (by omega)
    have hjN : j < n.1 := by omega
    rw [cntI_s, t_144_64]
    simp only [t_144_65, t_144_66, t_144_69, t_144_72, t_144_73, t_144_74, t_144_75, t_144_76, t_144_79, t_144_82, t_144_83, t_144_86, t_144_87, t_144_88, t_144_89, t_144_92, t_144_95, t_144_96, decide_true, decide_false, Bool.not_true, Bool.not_false, Nat.reduceLeDiff, Nat.reduceSub, z0_t, z1_f, z1_t, true_or, or_true,  if_true, if_false, Bool.false_eq_true, aft_v, aft_n, aftN_v, aftN_n, qwV_s, qwV_0, bI_if, bI_ok, bI_ok0, bI_ok1, true_and, f_18_0 h, f_18_1 h, f_18_2 h, f_18_3 h, f_18_4 h, f_18_5 h, f_18_6 h, f_18_7 h, f_18_8 h, f_18_9 h, f_18_10 h, f_18_11 h, f_18_12 h, f_18_13 h, f_18_14 h, f_18_15 h, f_18_16 h, f_18_17 h, f_18_18 h, f_18_19 h, f_18_20 h, f_18_21 h, f_18_22 h, f_18_23 h, f_18_24 h, f_18_25 h, f_18_26 h, f_18_27 h, rL_21 h, rL_22 h, rL_24 h, rL_25 h, rL_26 h, rL_27 h, rL_29 h, rL_30 h, rL_31 h, rL_32 h, rL_34 h, rL_35 h, rL_36 h, rL_37 h, rL_38 h, rL_39 h, rL_40 h, rL_43 h, rL_44 h, rL_45 h, rL_46 h, rL_47 h, rI_41 h, k_0 h, k_1 h, k_2 h, k_4 h, k_5 h, k_7 h, k_18 h, h1, if_neg (le_f hjN (show n.1 < 2 ^ 31 by omega)), s143 h hI hs' hjN, nI_add, ih]
    cases lkM n c s j <;> simp [nI_0]
theorem s144 (h : Lay x l n) (hI : MI n c) {s : Nat} (hs' : s < n.2.2.1) : CL x 144 [.ref (l.1 18 0), .int (nI s)] (Wo x l n c) K = K (.inl (some (.int (errM n c s)))) (Wo x l n (erC n c s)) := by
  have hI0 := hI
  obtain ⟨h1, h2, h3, h4, h5, h6, h7, h8, h9⟩ := hI0
  have eb := (h9 s hs').2.2
  have hI1 : MI n (cM c (lblM n c s)) := MI_cM hI
  have a1 := s144_a h (c := cM c (lblM n c s)) h5 (by rw [cM_n (by decide) (by decide)]; exact h2) (show s < 6 by omega) (mc := 0) (ms := 0) (post := K) n.2.1 0 (nI 0) (Nat.zero_add _)
  rw [cM_1, cM_n (by decide) (by decide)] at a1
  have a2 := fun a => s144_b h hI1 hs' (mc := 0) (ms := 0) (post := K) n.1 0 a (Nat.zero_add _)
  simp only [lkM_M] at a2
  rw [CL_144]
  unfold errM erC
  cases q : prB (c 41 0 s)
  · rw [q] at eb
    simp only [t_144_0, t_144_1, t_144_4, t_144_5, t_144_6, t_144_9, t_144_10, t_144_11, t_144_12, t_144_13, t_144_16, t_144_17, t_144_18, t_144_19, decide_true, decide_false, Bool.not_true, Bool.not_false, Nat.reduceLeDiff, Nat.reduceSub, z0_t, z1_f, z1_t, true_or, or_true,  if_true, if_false, Bool.false_eq_true, aft_v, aft_n, aftN_v, aftN_n, qwV_s, qwV_0, bI_if, bI_ok, bI_ok0, bI_ok1, true_and, f_18_0 h, f_18_1 h, f_18_2 h, f_18_3 h, f_18_4 h, f_18_5 h, f_18_6 h, f_18_7 h, f_18_8 h, f_18_9 h, f_18_10 h, f_18_11 h, f_18_12 h, f_18_13 h, f_18_14 h, f_18_15 h, f_18_16 h, f_18_17 h, f_18_18 h, f_18_19 h, f_18_20 h, f_18_21 h, f_18_22 h, f_18_23 h, f_18_24 h, f_18_25 h, f_18_26 h, f_18_27 h, rL_21 h, rL_22 h, rL_24 h, rL_25 h, rL_26 h, rL_27 h, rL_29 h, rL_30 h, rL_31 h, rL_32 h, rL_34 h, rL_35 h, rL_36 h, rL_37 h, rL_38 h, rL_39 h, rL_40 h, rL_43 h, rL_44 h, rL_45 h, rL_46 h, rL_47 h, rI_41 h, vp_in_nI (show s < 6 by omega) (show 6 < 2 ^ 31 by decide), nI_clamp (show s < 2 ^ 31 by omega), eb]
  · rw [q] at eb
    simp only [t_144_0, t_144_1, t_144_4, t_144_5, t_144_6, t_144_9, t_144_10, t_144_11, t_144_12, t_144_13, t_144_16, t_144_17, t_144_18, t_144_19, decide_true, decide_false, Bool.not_true, Bool.not_false, Nat.reduceLeDiff, Nat.reduceSub, z0_t, z1_f, z1_t, true_or, or_true,  if_true, if_false, Bool.false_eq_true, aft_v, aft_n, aftN_v, aftN_n, qwV_s, qwV_0, bI_if, bI_ok, bI_ok0, bI_ok1, true_and, f_18_0 h, f_18_1 h, f_18_2 h, f_18_3 h, f_18_4 h, f_18_5 h, f_18_6 h, f_18_7 h, f_18_8 h, f_18_9 h, f_18_10 h, f_18_11 h, f_18_12 h, f_18_13 h, f_18_14 h, f_18_15 h, f_18_16 h, f_18_17 h, f_18_18 h, f_18_19 h, f_18_20 h, f_18_21 h, f_18_22 h, f_18_23 h, f_18_24 h, f_18_25 h, f_18_26 h, f_18_27 h, rL_21 h, rL_22 h, rL_24 h, rL_25 h, rL_26 h, rL_27 h, rL_29 h, rL_30 h, rL_31 h, rL_32 h, rL_34 h, rL_35 h, rL_36 h, rL_37 h, rL_38 h, rL_39 h, rL_40 h, rL_43 h, rL_44 h, rL_45 h, rL_46 h, rL_47 h, rI_41 h, k_0 h, k_1 h, k_2 h, k_4 h, k_5 h, k_7 h, k_18 h, vp_in_nI (show s < 6 by omega) (show 6 < 2 ^ 31 by decide), nI_clamp (show s < 2 ^ 31 by omega), eb, s139w h hI hs', a1]
    rw [t_144_20]
    simp (disch := decide) only [t_144_21, t_144_22, t_144_25, t_144_28, t_144_29, t_144_30, t_144_33, t_144_34, t_144_35, t_144_36, t_144_39, t_144_41, t_144_42, t_144_43, t_144_44, t_144_45, t_144_46, t_144_49, t_144_50, t_144_53, t_144_54, t_144_55, t_144_56, t_144_59, t_144_62, t_144_63, decide_true, decide_false, Bool.not_true, Bool.not_false, Nat.reduceLeDiff, Nat.reduceSub, z0_t, z1_f, z1_t, true_or, or_true,  if_true, if_false, Bool.false_eq_true, aft_v, aft_n, aftN_v, aftN_n, qwV_s, qwV_0, bI_if, bI_ok, bI_ok0, bI_ok1, true_and, f_18_0 h, f_18_1 h, f_18_2 h, f_18_3 h, f_18_4 h, f_18_5 h, f_18_6 h, f_18_7 h, f_18_8 h, f_18_9 h, f_18_10 h, f_18_11 h, f_18_12 h, f_18_13 h, f_18_14 h, f_18_15 h, f_18_16 h, f_18_17 h, f_18_18 h, f_18_19 h, f_18_20 h, f_18_21 h, f_18_22 h, f_18_23 h, f_18_24 h, f_18_25 h, f_18_26 h, f_18_27 h, rL_21 h, rL_22 h, rL_24 h, rL_25 h, rL_26 h, rL_27 h, rL_29 h, rL_30 h, rL_31 h, rL_32 h, rL_34 h, rL_35 h, rL_36 h, rL_37 h, rL_38 h, rL_39 h, rL_40 h, rL_43 h, rL_44 h, rL_45 h, rL_46 h, rL_47 h, rI_41 h, cM_n, h2, if_pos (le_t (Nat.le_refl n.2.1) (show n.2.1 < 2 ^ 31 by omega)), a2]
theorem MI_er {s : Nat} (hI : MI n c) : MI n (erC n c s) := by
  unfold erC
  split
  · exact MI_cM hI
  · exact hI
def swM (n : Nn) (s : Nat) (p : Cc × Int32) : Cc × Int32 := (erC n p.1 s, if errM n p.1 s ≤ 0 then p.2 else p.2 + nI 1)
theorem s145_l (h : Lay x l n) : ∀ (d s : Nat) (c : Cc) (a : Int32), MI n c → s + d = n.2.2.1 → WP x 145 4 [some (.ref (l.1 18 0)), some (.int a), some (.int (nI s))] [] (Wo x l n c) mc ms post = post (.inl (some (.int (itF (swM n) d s (c, a)).2))) (Wo x l n (itF (swM n) d s (c, a)).1)
  | 0, s, c, a, hI, hj => by
    obtain ⟨h1, h2, h3, h4, h5, h6, h7, h8, h9⟩ := hI
    rw [t_145_4]
    simp only [t_145_5, t_145_6, t_145_9, t_145_12, t_145_13, t_145_14, t_145_15, t_145_18, t_145_21, t_145_22, t_145_25, t_145_26, t_145_27, t_145_28, t_145_31, t_145_34, t_145_35, decide_true, decide_false, Bool.not_true, Bool.not_false, Nat.reduceLeDiff, Nat.reduceSub, z0_t, z1_f, z1_t, true_or, or_true,  if_true, if_false, Bool.false_eq_true, aft_v, aft_n, aftN_v, aftN_n, qwV_s, qwV_0, bI_if, bI_ok, bI_ok0, bI_ok1, true_and, f_18_0 h, f_18_1 h, f_18_2 h, f_18_3 h, f_18_4 h, f_18_5 h, f_18_6 h, f_18_7 h, f_18_8 h, f_18_9 h, f_18_10 h, f_18_11 h, f_18_12 h, f_18_13 h, f_18_14 h, f_18_15 h, f_18_16 h, f_18_17 h, f_18_18 h, f_18_19 h, f_18_20 h, f_18_21 h, f_18_22 h, f_18_23 h, f_18_24 h, f_18_25 h, f_18_26 h, f_18_27 h, rL_21 h, rL_22 h, rL_24 h, rL_25 h, rL_26 h, rL_27 h, rL_29 h, rL_30 h, rL_31 h, rL_32 h, rL_34 h, rL_35 h, rL_36 h, rL_37 h, rL_38 h, rL_39 h, rL_40 h, rL_43 h, rL_44 h, rL_45 h, rL_46 h, rL_47 h, rI_41 h, h3, if_pos (le_t (show n.2.2.1 ≤ s by omega) (show s < 2 ^ 31 by omega)), itF_0]
  | d + 1, s, c, a, hI, hj => by
    have hI0 := hI
    obtain ⟨h1, h2, h3, h4, h5, h6, h7, h8, h9⟩ := hI0
    have ih := fun a => s145_l h d (s + 1) (erC n c s) a (MI_er hI) (by omega)
    have hs1 : s < n.2.2.1 := by omega
    rw [t_145_4]
    simp only [t_145_5, t_145_6, t_145_9, t_145_12, t_145_13, t_145_14, t_145_15, t_145_18, t_145_21, t_145_22, t_145_25, t_145_26, t_145_27, t_145_28, t_145_31, t_145_34, t_145_35, decide_true, decide_false, Bool.not_true, Bool.not_false, Nat.reduceLeDiff, Nat.reduceSub, z0_t, z1_f, z1_t, true_or, or_true,  if_true, if_false, Bool.false_eq_true, aft_v, aft_n, aftN_v, aftN_n, qwV_s, qwV_0, bI_if, bI_ok, bI_ok0, bI_ok1, true_and, f_18_0 h, f_18_1 h, f_18_2 h, f_18_3 h, f_18_4 h, f_18_5 h, f_18_6 h, f_18_7 h, f_18_8 h, f_18_9 h, f_18_10 h, f_18_11 h, f_18_12 h, f_18_13 h, f_18_14 h, f_18_15 h, f_18_16 h, f_18_17 h, f_18_18 h, f_18_19 h, f_18_20 h, f_18_21 h, f_18_22 h, f_18_23 h, f_18_24 h, f_18_25 h, f_18_26 h, f_18_27 h, rL_21 h, rL_22 h, rL_24 h, rL_25 h, rL_26 h, rL_27 h, rL_29 h, rL_30 h, rL_31 h, rL_32 h, rL_34 h, rL_35 h, rL_36 h, rL_37 h, rL_38 h, rL_39 h, rL_40 h, rL_43 h, rL_44 h, rL_45 h, rL_46 h, rL_47 h, rI_41 h, k_0 h, k_1 h, k_2 h, k_4 h, k_5 h, k_7 h, k_18 h, h3, if_neg (le_f hs1 (show n.2.2.1 < 2 ^ 31 by omega)), s144 h hI hs1, nI_add, ih]
    rw [itF_s]
    unfold swM
    by_cases q : errM n c s ≤ 0 <;> simp [q, nI_0]
def wrM (n : Nn) (c : Cc) : Cc × Int32 := itF (swM n) n.2.2.1 0 (c, nI 0)
theorem s145 (h : Lay x l n) (hI : MI n c) : CL x 145 [.ref (l.1 18 0)] (Wo x l n c) K = K (.inl (some (.int (wrM n c).2))) (Wo x l n (wrM n c).1) := by
  rw [CL_145]
  simp only [t_145_0, t_145_1, t_145_2, t_145_3, s145_l h n.2.2.1 0 c _ hI (Nat.zero_add _), wrM]
theorem s140 (h : Lay x l n) (hI : MI n c) {v m : Int32} : CL x 140 [.ref (l.1 18 0), .int v, .int m] (Wo x l n c) K = if (inN n.2.2.1 v && inN n.2.1 m) = true then K (.inl (some (.int ((lblM n c v.toNatClampNeg).2 m.toNatClampNeg)))) (Wo x l n (cM (thC c (nI 0)) (lblM n c v.toNatClampNeg))) else K (.inl (some (.int (nI 0)))) (Wo x l n (thC c (nI 1))) := by
  have hI0 := hI
  obtain ⟨h1, h2, h3, h4, h5, h6, h7, h8, h9⟩ := hI0
  have e0 : cu c 18 0 (upd (c 18 0) 0 (nI 0)) = thC c (nI 0) := rfl
  rw [CL_140]
  by_cases q : inN n.2.2.1 v = true
  · by_cases q2 : inN n.2.1 m = true
    · rw [q, q2]
      have q' := q
      have q2' := q2
      obtain ⟨j, hj, rfl⟩ := inN_t (by omega) q
      obtain ⟨k, hk, rfl⟩ := inN_t (by omega) q2
      have m := fun K => s139w h (c := thC c (nI 0)) (K := K) (MI_th hI) hj
      simp only [lblM_th] at m
      simp (disch := decide) only [t_140_0, t_140_1, t_140_2, t_140_3, t_140_6, t_140_9, t_140_10, t_140_11, t_140_14, t_140_17, t_140_18, t_140_21, t_140_22, t_140_25, t_140_28, t_140_29, t_140_30, t_140_31, t_140_32, t_140_35, t_140_36, t_140_39, t_140_40, t_140_41, decide_true, decide_false, Bool.not_true, Bool.not_false, Nat.reduceLeDiff, Nat.reduceSub, z0_t, z1_f, z1_t, true_or, or_true,  if_true, if_false, Bool.false_eq_true, aft_v, aft_n, aftN_v, aftN_n, qwV_s, qwV_0, bI_if, bI_ok, bI_ok0, bI_ok1, true_and, f_18_0 h, f_18_1 h, f_18_2 h, f_18_3 h, f_18_4 h, f_18_5 h, f_18_6 h, f_18_7 h, f_18_8 h, f_18_9 h, f_18_10 h, f_18_11 h, f_18_12 h, f_18_13 h, f_18_14 h, f_18_15 h, f_18_16 h, f_18_17 h, f_18_18 h, f_18_19 h, f_18_20 h, f_18_21 h, f_18_22 h, f_18_23 h, f_18_24 h, f_18_25 h, f_18_26 h, f_18_27 h, rL_21 h, rL_22 h, rL_24 h, rL_25 h, rL_26 h, rL_27 h, rL_29 h, rL_30 h, rL_31 h, rL_32 h, rL_34 h, rL_35 h, rL_36 h, rL_37 h, rL_38 h, rL_39 h, rL_40 h, rL_43 h, rL_44 h, rL_45 h, rL_46 h, rL_47 h, rI_41 h, k_0 h, k_1 h, k_2 h, k_4 h, k_5 h, k_7 h, k_18 h, s112 h h3 h6, s111 h h2 h5, q', q2', s105 h, mTT, e0, m, cM_2, vp_in_nI (show k < 10 by omega) (show 10 < 2 ^ 31 by decide), nI_clamp (show j < 2 ^ 31 by omega), nI_clamp (show k < 2 ^ 31 by omega), Bool.and_self]
    · have q3 : inN n.2.1 m = false := by cases e : inN n.2.1 m <;> simp_all
      simp only [t_140_0, t_140_1, t_140_2, t_140_3, t_140_6, t_140_9, t_140_10, t_140_11, t_140_14, t_140_17, t_140_18, t_140_21, t_140_22, t_140_25, t_140_28, t_140_29, t_140_30, t_140_31, t_140_32, t_140_35, t_140_36, t_140_39, t_140_40, t_140_41, decide_true, decide_false, Bool.not_true, Bool.not_false, Nat.reduceLeDiff, Nat.reduceSub, z0_t, z1_f, z1_t, true_or, or_true,  if_true, if_false, Bool.false_eq_true, aft_v, aft_n, aftN_v, aftN_n, qwV_s, qwV_0, bI_if, bI_ok, bI_ok0, bI_ok1, true_and, f_18_0 h, f_18_1 h, f_18_2 h, f_18_3 h, f_18_4 h, f_18_5 h, f_18_6 h, f_18_7 h, f_18_8 h, f_18_9 h, f_18_10 h, f_18_11 h, f_18_12 h, f_18_13 h, f_18_14 h, f_18_15 h, f_18_16 h, f_18_17 h, f_18_18 h, f_18_19 h, f_18_20 h, f_18_21 h, f_18_22 h, f_18_23 h, f_18_24 h, f_18_25 h, f_18_26 h, f_18_27 h, rL_21 h, rL_22 h, rL_24 h, rL_25 h, rL_26 h, rL_27 h, rL_29 h, rL_30 h, rL_31 h, rL_32 h, rL_34 h, rL_35 h, rL_36 h, rL_37 h, rL_38 h, rL_39 h, rL_40 h, rL_43 h, rL_44 h, rL_45 h, rL_46 h, rL_47 h, rI_41 h, k_0 h, k_1 h, k_2 h, k_4 h, k_5 h, k_7 h, k_18 h, s112 h h3 h6, s111 h h2 h5, q, q3, s105 h, mTF, thC, Bool.and_false]
  · have q3 : inN n.2.2.1 v = false := by cases e : inN n.2.2.1 v <;> simp_all
    simp only [t_140_0, t_140_1, t_140_2, t_140_3, t_140_6, t_140_9, t_140_10, t_140_11, t_140_14, t_140_17, t_140_18, t_140_21, t_140_22, t_140_25, t_140_28, t_140_29, t_140_30, t_140_31, t_140_32, t_140_35, t_140_36, t_140_39, t_140_40, t_140_41, decide_true, decide_false, Bool.not_true, Bool.not_false, Nat.reduceLeDiff, Nat.reduceSub, z0_t, z1_f, z1_t, true_or, or_true,  if_true, if_false, Bool.false_eq_true, aft_v, aft_n, aftN_v, aftN_n, qwV_s, qwV_0, bI_if, bI_ok, bI_ok0, bI_ok1, true_and, f_18_0 h, f_18_1 h, f_18_2 h, f_18_3 h, f_18_4 h, f_18_5 h, f_18_6 h, f_18_7 h, f_18_8 h, f_18_9 h, f_18_10 h, f_18_11 h, f_18_12 h, f_18_13 h, f_18_14 h, f_18_15 h, f_18_16 h, f_18_17 h, f_18_18 h, f_18_19 h, f_18_20 h, f_18_21 h, f_18_22 h, f_18_23 h, f_18_24 h, f_18_25 h, f_18_26 h, f_18_27 h, rL_21 h, rL_22 h, rL_24 h, rL_25 h, rL_26 h, rL_27 h, rL_29 h, rL_30 h, rL_31 h, rL_32 h, rL_34 h, rL_35 h, rL_36 h, rL_37 h, rL_38 h, rL_39 h, rL_40 h, rL_43 h, rL_44 h, rL_45 h, rL_46 h, rL_47 h, rI_41 h, k_0 h, k_1 h, k_2 h, k_4 h, k_5 h, k_7 h, k_18 h, s112 h h3 h6, s111 h h2 h5, q3, s105 h, mTF, thC, Bool.false_and]
theorem s141_l (h : Lay x l n) (hN : n.2.1 ≤ 10) (hn : c 18 0 13 = nI n.2.1) {l1 : Option Value} {a b : Int32} : ∀ (d j : Nat) (v : Int32), j + d = n.2.1 → WP x 141 45 [some (.ref (l.1 18 0)), l1, some (.int a), some (.int b), some (.int v), some (.int (nI j))] [] (Wo x l n c) mc ms post = post (.inl (some (.int (laF (fun o => takM (c 47 0 o) (c 31 0 o) a b) d j v)))) (Wo x l n c)
  | 0, j, v, hj => by
    rw [t_141_45]
    simp only [t_141_47, t_141_48, t_141_51, t_141_54, t_141_55, t_141_57, t_141_58, t_141_59, t_141_62, t_141_65, t_141_67, t_141_70, t_141_72, t_141_74, t_141_77, t_141_80, t_141_82, decide_true, decide_false, Bool.not_true, Bool.not_false, Nat.reduceLeDiff, Nat.reduceSub, z0_t, z1_f, z1_t, true_or, or_true,  if_true, if_false, Bool.false_eq_true, aft_v, aft_n, aftN_v, aftN_n, qwV_s, qwV_0, bI_if, bI_ok, bI_ok0, bI_ok1, true_and, f_18_0 h, f_18_1 h, f_18_2 h, f_18_3 h, f_18_4 h, f_18_5 h, f_18_6 h, f_18_7 h, f_18_8 h, f_18_9 h, f_18_10 h, f_18_11 h, f_18_12 h, f_18_13 h, f_18_14 h, f_18_15 h, f_18_16 h, f_18_17 h, f_18_18 h, f_18_19 h, f_18_20 h, f_18_21 h, f_18_22 h, f_18_23 h, f_18_24 h, f_18_25 h, f_18_26 h, f_18_27 h, rL_21 h, rL_22 h, rL_24 h, rL_25 h, rL_26 h, rL_27 h, rL_29 h, rL_30 h, rL_31 h, rL_32 h, rL_34 h, rL_35 h, rL_36 h, rL_37 h, rL_38 h, rL_39 h, rL_40 h, rL_43 h, rL_44 h, rL_45 h, rL_46 h, rL_47 h, rI_41 h, hn, if_pos (le_t (show n.2.1 ≤ j by omega) (show j < 2 ^ 31 by omega)), laF_0]
  | d + 1, j, v, hj => by
    have ih := fun v => s141_l h hN hn (l1 := l1) (a := a) (b := b) d (j + 1) v (by omega)
    have hjN : j < n.2.1 := by omega
    rw [t_141_45]
    simp only [t_141_47, t_141_48, t_141_51, t_141_54, t_141_55, t_141_57, t_141_58, t_141_59, t_141_62, t_141_65, t_141_67, t_141_70, t_141_72, t_141_74, t_141_77, t_141_80, t_141_82, decide_true, decide_false, Bool.not_true, Bool.not_false, Nat.reduceLeDiff, Nat.reduceSub, z0_t, z1_f, z1_t, true_or, or_true,  if_true, if_false, Bool.false_eq_true, aft_v, aft_n, aftN_v, aftN_n, qwV_s, qwV_0, bI_if, bI_ok, bI_ok0, bI_ok1, true_and, f_18_0 h, f_18_1 h, f_18_2 h, f_18_3 h, f_18_4 h, f_18_5 h, f_18_6 h, f_18_7 h, f_18_8 h, f_18_9 h, f_18_10 h, f_18_11 h, f_18_12 h, f_18_13 h, f_18_14 h, f_18_15 h, f_18_16 h, f_18_17 h, f_18_18 h, f_18_19 h, f_18_20 h, f_18_21 h, f_18_22 h, f_18_23 h, f_18_24 h, f_18_25 h, f_18_26 h, f_18_27 h, rL_21 h, rL_22 h, rL_24 h, rL_25 h, rL_26 h, rL_27 h, rL_29 h, rL_30 h, rL_31 h, rL_32 h, rL_34 h, rL_35 h, rL_36 h, rL_37 h, rL_38 h, rL_39 h, rL_40 h, rL_43 h, rL_44 h, rL_45 h, rL_46 h, rL_47 h, rI_41 h, k_0 h, k_1 h, k_2 h, k_4 h, k_5 h, k_7 h, k_18 h, hn, if_neg (le_f hjN (show n.2.1 < 2 ^ 31 by omega)), s136 h (show j < 10 by omega), nI_add, ih]
    rw [laF_s]
    cases takM (c 47 0 j) (c 31 0 j) a b <;> simp
theorem s141 (h : Lay x l n) (hI : MI n c) {v a b : Int32} : CL x 141 [.ref (l.1 18 0), .int v, .int a, .int b] (Wo x l n c) K = if inN n.2.2.1 v = true then (if inP a b = true then K (.inl (some (.int (laF (fun o => takM ((lblM n c v.toNatClampNeg).1 o) (c 31 0 o) a b) n.2.1 0 (-1))))) (Wo x l n (cM (thC c (nI 0)) (lblM n c v.toNatClampNeg))) else K (.inl (some (.int (nI 0)))) (Wo x l n (thC c (nI 2)))) else K (.inl (some (.int (nI 0)))) (Wo x l n (thC c (nI 1))) := by
  have hI0 := hI
  obtain ⟨h1, h2, h3, h4, h5, h6, h7, h8, h9⟩ := hI0
  have e0 : cu c 18 0 (upd (c 18 0) 0 (nI 0)) = thC c (nI 0) := rfl
  rw [CL_141]
  by_cases q : inN n.2.2.1 v = true
  · cases q2 : inP a b
    · simp only [t_141_0, t_141_1, t_141_2, t_141_3, t_141_6, t_141_9, t_141_10, t_141_13, t_141_14, t_141_15, t_141_18, t_141_21, t_141_22, t_141_25, t_141_26, t_141_29, t_141_32, t_141_33, t_141_34, t_141_35, t_141_36, t_141_39, t_141_40, t_141_42, t_141_43, decide_true, decide_false, Bool.not_true, Bool.not_false, Nat.reduceLeDiff, Nat.reduceSub, z0_t, z1_f, z1_t, true_or, or_true,  if_true, if_false, Bool.false_eq_true, aft_v, aft_n, aftN_v, aftN_n, qwV_s, qwV_0, bI_if, bI_ok, bI_ok0, bI_ok1, true_and, f_18_0 h, f_18_1 h, f_18_2 h, f_18_3 h, f_18_4 h, f_18_5 h, f_18_6 h, f_18_7 h, f_18_8 h, f_18_9 h, f_18_10 h, f_18_11 h, f_18_12 h, f_18_13 h, f_18_14 h, f_18_15 h, f_18_16 h, f_18_17 h, f_18_18 h, f_18_19 h, f_18_20 h, f_18_21 h, f_18_22 h, f_18_23 h, f_18_24 h, f_18_25 h, f_18_26 h, f_18_27 h, rL_21 h, rL_22 h, rL_24 h, rL_25 h, rL_26 h, rL_27 h, rL_29 h, rL_30 h, rL_31 h, rL_32 h, rL_34 h, rL_35 h, rL_36 h, rL_37 h, rL_38 h, rL_39 h, rL_40 h, rL_43 h, rL_44 h, rL_45 h, rL_46 h, rL_47 h, rI_41 h, k_0 h, k_1 h, k_2 h, k_4 h, k_5 h, k_7 h, k_18 h, s112 h h3 h6, s107, q, q2, s105 h, mTF2, thC]
    · rw [q]
      have q' := q
      obtain ⟨j, hj, rfl⟩ := inN_t (by omega) q
      have m := fun K => s139w h (c := thC c (nI 0)) (K := K) (MI_th hI) hj
      simp only [lblM_th] at m
      have lp := s141_l h (c := cM (thC c (nI 0)) (lblM n c j)) h5 (by rw [cM_n (by decide) (by decide), thC_f (by decide)]; exact h2) (l1 := some (.int (nI j))) (a := a) (b := b) (mc := 0) (ms := 0) (post := K) n.2.1 0 (-1) (Nat.zero_add _)
      rw [cM_1, cM_n (by decide) (by decide), thC_n (by decide)] at lp
      simp (disch := decide) only [t_141_0, t_141_1, t_141_2, t_141_3, t_141_6, t_141_9, t_141_10, t_141_13, t_141_14, t_141_15, t_141_18, t_141_21, t_141_22, t_141_25, t_141_26, t_141_29, t_141_32, t_141_33, t_141_34, t_141_35, t_141_36, t_141_39, t_141_40, t_141_42, t_141_43, decide_true, decide_false, Bool.not_true, Bool.not_false, Nat.reduceLeDiff, Nat.reduceSub, z0_t, z1_f, z1_t, true_or, or_true,  if_true, if_false, Bool.false_eq_true, aft_v, aft_n, aftN_v, aftN_n, qwV_s, qwV_0, bI_if, bI_ok, bI_ok0, bI_ok1, true_and, f_18_0 h, f_18_1 h, f_18_2 h, f_18_3 h, f_18_4 h, f_18_5 h, f_18_6 h, f_18_7 h, f_18_8 h, f_18_9 h, f_18_10 h, f_18_11 h, f_18_12 h, f_18_13 h, f_18_14 h, f_18_15 h, f_18_16 h, f_18_17 h, f_18_18 h, f_18_19 h, f_18_20 h, f_18_21 h, f_18_22 h, f_18_23 h, f_18_24 h, f_18_25 h, f_18_26 h, f_18_27 h, rL_21 h, rL_22 h, rL_24 h, rL_25 h, rL_26 h, rL_27 h, rL_29 h, rL_30 h, rL_31 h, rL_32 h, rL_34 h, rL_35 h, rL_36 h, rL_37 h, rL_38 h, rL_39 h, rL_40 h, rL_43 h, rL_44 h, rL_45 h, rL_46 h, rL_47 h, rI_41 h, k_0 h, k_1 h, k_2 h, k_4 h, k_5 h, k_7 h, k_18 h, s112 h h3 h6, s107, q', q2, s105 h, mTT, e0, m, lp, nI_clamp (show j < 2 ^ 31 by omega)]
  · have q3 : inN n.2.2.1 v = false := by cases e : inN n.2.2.1 v <;> simp_all
    simp only [t_141_0, t_141_1, t_141_2, t_141_3, t_141_6, t_141_9, t_141_10, t_141_13, t_141_14, t_141_15, t_141_18, t_141_21, t_141_22, t_141_25, t_141_26, t_141_29, t_141_32, t_141_33, t_141_34, t_141_35, t_141_36, t_141_39, t_141_40, t_141_42, t_141_43, decide_true, decide_false, Bool.not_true, Bool.not_false, Nat.reduceLeDiff, Nat.reduceSub, z0_t, z1_f, z1_t, true_or, or_true,  if_true, if_false, Bool.false_eq_true, aft_v, aft_n, aftN_v, aftN_n, qwV_s, qwV_0, bI_if, bI_ok, bI_ok0, bI_ok1, true_and, f_18_0 h, f_18_1 h, f_18_2 h, f_18_3 h, f_18_4 h, f_18_5 h, f_18_6 h, f_18_7 h, f_18_8 h, f_18_9 h, f_18_10 h, f_18_11 h, f_18_12 h, f_18_13 h, f_18_14 h, f_18_15 h, f_18_16 h, f_18_17 h, f_18_18 h, f_18_19 h, f_18_20 h, f_18_21 h, f_18_22 h, f_18_23 h, f_18_24 h, f_18_25 h, f_18_26 h, f_18_27 h, rL_21 h, rL_22 h, rL_24 h, rL_25 h, rL_26 h, rL_27 h, rL_29 h, rL_30 h, rL_31 h, rL_32 h, rL_34 h, rL_35 h, rL_36 h, rL_37 h, rL_38 h, rL_39 h, rL_40 h, rL_43 h, rL_44 h, rL_45 h, rL_46 h, rL_47 h, rI_41 h, k_0 h, k_1 h, k_2 h, k_4 h, k_5 h, k_7 h, k_18 h, s112 h h3 h6, s107, q3, s105 h, mTF, thC]
end
