/-! sets of points as numbers -/
def pcN (T : Nat) : Nat := ((List.range 8).filter (fun p => T.testBit p)).length
set_option maxRecDepth 100000 in
theorem hs_bit : ∀ T, T < 256 → ∀ p, p < 8 → hs (nI T) (nI p) = T.testBit p := by decide +kernel
set_option maxRecDepth 100000 in
theorem off_bit : ∀ T, T < 256 → ∀ p, p < 8 → T.testBit p = true → offB (nI T) (nI p) = nI (T ^^^ 2 ^ p) ∧ nI T - (nI 1 <<< (nI p &&& 31)) = nI (T ^^^ 2 ^ p) ∧ T ^^^ 2 ^ p < 256 ∧ pcN (T ^^^ 2 ^ p) + 1 = pcN T := by decide +kernel
set_option maxRecDepth 100000 in
theorem all_bit : ∀ z, z ≤ 8 → nI 1 <<< (nI z &&& 31) - nI 1 = nI (2 ^ z - 1) ∧ 2 ^ z - 1 < 256 ∧ pcN (2 ^ z - 1) = z ∧ ∀ p, p < 8 → (2 ^ z - 1).testBit p = decide (p < z) := by decide +kernel
set_option maxRecDepth 100000 in
theorem bc_cnt : ∀ T, T < 256 → bcI (nI T) = cnt8 (nI T) := by decide +kernel
theorem off_ne {T p q : Nat} (h : q ≠ p) : (T ^^^ 2 ^ p).testBit q = T.testBit q := by
  rw [Nat.testBit_xor, Nat.testBit_two_pow]
  simp [Ne.symm h]
theorem off_eq {T p : Nat} (h : T.testBit p = true) : (T ^^^ 2 ^ p).testBit p = false := by
  rw [Nat.testBit_xor, Nat.testBit_two_pow, h]
  simp
theorem gF_in {bit met : Nat → Bool} {tri : Nat → Int32} : ∀ {d p : Nat} {a g : Int32}, gF bit met tri d p a g = g ∨ ∃ q, p ≤ q ∧ q < p + d ∧ bit q = true ∧ gF bit met tri d p a g = nI q
  | 0, p, a, g => Or.inl rfl
  | d + 1, p, a, g => by
    rw [gF_s]
    split
    · next h =>
      have hb := ((Bool.and_eq_true _ _).mp h).1
      rcases gF_in (bit := bit) (met := met) (tri := tri) (d := d) (p := p + 1) (a := tri p) (g := nI p) with q | ⟨q, h1, h2, h3, h4⟩
      · exact Or.inr ⟨p, Nat.le_refl p, by omega, hb, q⟩
      · exact Or.inr ⟨q, by omega, by omega, h3, h4⟩
    · rcases gF_in (bit := bit) (met := met) (tri := tri) (d := d) (p := p + 1) (a := a) (g := g) with q | ⟨q, h1, h2, h3, h4⟩
      · exact Or.inl q
      · exact Or.inr ⟨q, by omega, by omega, h3, h4⟩
/-! the model's generaliser -/
def szN (f : Nat → Int32) (r : Nat) : Nat := (f r).toNatClampNeg
def SzM (N : Nat) (f : Nat → Int32) : Prop := ∀ r, r < N → f r = nI (szN f r) ∧ 2 ≤ szN f r ∧ szN f r ≤ 8
abbrev Fn1 : Type := Nat → Int32
def shrM1 (X Y RK : Fn1) (r k : Nat) (s : Int32) (o j : Nat) : Bool := !decide (o = r) && (!decide (RK o < s) && (decide (X (8 * o + j) = X k) && decide (Y (8 * o + j) = Y k)))
def shrM (X Y Z RK : Fn1) (N r k : Nat) (s : Int32) : Bool := anyB (fun o => anyB (shrM1 X Y RK r k s o) (szN Z o) 0) N 0
def trM (X Y : Fn1) (r : Nat) (S : Int32) (z p : Nat) : Int32 := triM X Y (8 * r + p) (8 * r + ahd S (p - 1)) (8 * r + bhd S (z - 1 - (p + 1)) (p + 1))
def goesM (X Y Z RK : Fn1) (N r : Nat) (S s : Int32) : Int32 := gF (fun p => hs S (nI p)) (fun p => shrM X Y Z RK N r (8 * r + p) s) (trM X Y r S (szN Z r)) (szN Z r - 1 - 1) 1 (nI 20 * s) (-1)
def leftM (X Y Z RK : Fn1) (N r : Nat) (s : Int32) : Int32 := if RK r < s then nI 0 else lF (fun S => goesM X Y Z RK N r S s) 8 (nI 1 <<< (Z r &&& 31) - nI 1)
section
variable {x : Cx} {l : Ly} {n : Nn} {c : Cc} {mc ms : Nat} {w : Wd} {K post : Po}
theorem s121_m (h : Lay x l n) {r k o : Nat} {s : Int32} (hr : r < 8) (hk : k < 64) (ho : o < 8) {z : Nat} (hz : c 26 0 o = nI z) (hz8 : z ≤ 8) : ∀ (d j : Nat) (b : Bool), j + d = z → WP x 121 22 [some (.ref (l.1 18 0)), some (.int (nI r)), some (.int (nI k)), some (.int s), some (.int (bI b)), some (.int (nI o)), some (.int (nI (8 * o + j)))] [] (Wo x l n c) mc ms post = WP x 121 22 [some (.ref (l.1 18 0)), some (.int (nI r)), some (.int (nI k)), some (.int s), some (.int (bI (b || anyB (shrM1 (c 24 0) (c 25 0) (c 27 0) r k s o) d j))), some (.int (nI o)), some (.int (nI (8 * o + z)))] [] (Wo x l n c) mc ms post
  | 0, j, b, hj => by
    rw [show j = z by omega, anyB_0, Bool.or_false]
  | d + 1, j, b, hj => by
    have ih := fun b => s121_m h hr hk ho hz hz8 (s := s) d (j + 1) b (by omega)
    have hkk : 8 * o + j < 64 := by omega
    rw [anyB_s, ← Bool.or_assoc, ← ih, t_121_22]
    simp only [t_121_24, t_121_26, t_121_28, t_121_29, t_121_30, t_121_33, t_121_35, t_121_36, t_121_37, t_121_40, t_121_42, t_121_45, t_121_47, t_121_48, t_121_51, t_121_52, t_121_54, t_121_55, t_121_58, t_121_61, t_121_62, t_121_64, t_121_65, t_121_68, t_121_69, t_121_70, t_121_71, t_121_74, t_121_75, t_121_76, t_121_79, t_121_82, t_121_83, t_121_86, t_121_87, t_121_89, t_121_92, Nat.reduceLeDiff, Nat.reduceSub, z0_t, z1_f, z1_t, true_or, or_true,  if_true, if_false, Bool.false_eq_true, aft_v, aft_n, aftN_v, aftN_n, qwV_s, qwV_0, bI_if, bI_ok, bI_ok0, bI_ok1, true_and, f_18_0 h, f_18_1 h, f_18_2 h, f_18_3 h, f_18_4 h, f_18_5 h, f_18_6 h, f_18_7 h, f_18_8 h, f_18_9 h, f_18_10 h, f_18_11 h, f_18_12 h, f_18_13 h, f_18_14 h, f_18_15 h, f_18_16 h, f_18_17 h, f_18_18 h, f_18_19 h, f_18_20 h, f_18_21 h, f_18_22 h, f_18_23 h, f_18_24 h, f_18_25 h, f_18_26 h, f_18_27 h, rL_21 h, rL_22 h, rL_24 h, rL_25 h, rL_26 h, rL_27 h, rL_29 h, rL_30 h, rL_31 h, rL_32 h, rL_34 h, rL_35 h, rL_36 h, rL_37 h, rL_38 h, rL_39 h, rL_40 h, rL_43 h, rL_44 h, rL_45 h, rL_46 h, rL_47 h, rI_41 h, k_0 h, k_1 h, k_2 h, k_4 h, k_5 h, k_7 h, k_18 h, pk_mul, nI_add, vp_in_nI ho (show 8 < 2 ^ 31 by decide), nI_clamp (show o < 2 ^ 31 by omega), hz, if_neg (le_f (show 8 * o + j < 8 * o + z by omega) (show 8 * o + z < 2 ^ 31 by omega)), s120 h ho, vp_in_nI hk (show 64 < 2 ^ 31 by decide), nI_clamp (show k < 2 ^ 31 by omega), s116 h hkk, nI_eq (show o < 2 ^ 31 by omega) (show r < 2 ^ 31 by omega), Nat.add_assoc]
    unfold shrM1
    cases b <;> by_cases h1 : o = r <;> by_cases h2 : c 27 0 o < s <;> by_cases h3 : c 24 0 (8 * o + j) = c 24 0 k <;> by_cases h4 : c 25 0 (8 * o + j) = c 25 0 k <;> simp [h1, h2, h3, h4, bI_t, bI_f]
theorem s121_l (h : Lay x l n) (hN : n.1 ≤ 8) (hn : c 18 0 8 = nI n.1) (hZ : SzM n.1 (c 26 0)) {r k : Nat} {s : Int32} (hr : r < 8) (hk : k < 64) : ∀ (d o : Nat) (b : Bool) (l6 : Option Value), o + d = n.1 → WP x 121 6 [some (.ref (l.1 18 0)), some (.int (nI r)), some (.int (nI k)), some (.int s), some (.int (bI b)), some (.int (nI o)), l6] [] (Wo x l n c) mc ms post = post (.inl (some (.int (bI (b || anyB (fun o => anyB (shrM1 (c 24 0) (c 25 0) (c 27 0) r k s o) (szN (c 26 0) o) 0) d o))))) (Wo x l n c)
  | 0, o, b, l6, hj => by
    rw [t_121_6]
    simp only [t_121_8, t_121_9, t_121_12, t_121_15, t_121_17, t_121_19, t_121_20, t_121_22, t_121_24, t_121_26, t_121_28, t_121_29, t_121_30, t_121_33, t_121_35, t_121_36, t_121_37, t_121_40, t_121_42, t_121_45, t_121_47, t_121_48, t_121_51, t_121_52, t_121_54, t_121_55, t_121_58, t_121_61, t_121_62, t_121_64, t_121_65, t_121_68, t_121_69, t_121_70, t_121_71, t_121_74, t_121_75, t_121_76, t_121_79, t_121_82, t_121_83, t_121_86, t_121_87, t_121_89, t_121_92, t_121_95, t_121_98, t_121_101, t_121_103, Nat.reduceLeDiff, Nat.reduceSub, z0_t, z1_f, z1_t, true_or, or_true,  if_true, if_false, Bool.false_eq_true, aft_v, aft_n, aftN_v, aftN_n, qwV_s, qwV_0, bI_if, bI_ok, bI_ok0, bI_ok1, true_and, f_18_8 h, hn, if_pos (le_t (show n.1 ≤ o by omega) (show o < 2 ^ 31 by omega)), anyB_0, Bool.or_false]
  | d + 1, o, b, l6, hj => by
    have ih := fun b l6 => s121_l h hN hn hZ hr hk (s := s) d (o + 1) b l6 (by omega)
    have ho : o < n.1 := by omega
    obtain ⟨e1, e2, e3⟩ := hZ o ho
    have m := fun b => s121_m h hr hk (show o < 8 by omega) (s := s) (c := c) (mc := mc) (ms := ms) (post := post) e1 e3 (szN (c 26 0) o) 0 b (Nat.zero_add _)
    simp only [Nat.add_zero] at m
    rw [t_121_6]
    simp only [t_121_8, t_121_9, t_121_12, t_121_15, t_121_17, t_121_19, t_121_20, Nat.reduceLeDiff, Nat.reduceSub, z0_t, z1_f, z1_t, true_or, or_true,  if_true, if_false, Bool.false_eq_true, aft_v, aft_n, aftN_v, aftN_n, qwV_s, qwV_0, bI_if, bI_ok, bI_ok0, bI_ok1, true_and, f_18_8 h, hn, if_neg (le_f ho (show n.1 < 2 ^ 31 by omega)), pk_mul, m]
    rw [t_121_22]
    simp only [t_121_24, t_121_26, t_121_28, t_121_29, t_121_30, t_121_33, t_121_35, t_121_36, t_121_37, t_121_40, t_121_42, t_121_45, t_121_47, t_121_48, t_121_51, t_121_52, t_121_54, t_121_55, t_121_58, t_121_61, t_121_62, t_121_64, t_121_65, t_121_68, t_121_69, t_121_70, t_121_71, t_121_74, t_121_75, t_121_76, t_121_79, t_121_82, t_121_83, t_121_86, t_121_87, t_121_89, t_121_92, t_121_95, t_121_98, t_121_101, t_121_103, Nat.reduceLeDiff, Nat.reduceSub, z0_t, z1_f, z1_t, true_or, or_true,  if_true, if_false, Bool.false_eq_true, aft_v, aft_n, aftN_v, aftN_n, qwV_s, qwV_0, bI_if, bI_ok, bI_ok0, bI_ok1, true_and, f_18_0 h, f_18_1 h, f_18_2 h, f_18_3 h, f_18_4 h, f_18_5 h, f_18_6 h, f_18_7 h, f_18_8 h, f_18_9 h, f_18_10 h, f_18_11 h, f_18_12 h, f_18_13 h, f_18_14 h, f_18_15 h, f_18_16 h, f_18_17 h, f_18_18 h, f_18_19 h, f_18_20 h, f_18_21 h, f_18_22 h, f_18_23 h, f_18_24 h, f_18_25 h, f_18_26 h, f_18_27 h, rL_21 h, rL_22 h, rL_24 h, rL_25 h, rL_26 h, rL_27 h, rL_29 h, rL_30 h, rL_31 h, rL_32 h, rL_34 h, rL_35 h, rL_36 h, rL_37 h, rL_38 h, rL_39 h, rL_40 h, rL_43 h, rL_44 h, rL_45 h, rL_46 h, rL_47 h, rI_41 h, pk_mul, nI_add, vp_in_nI (show o < 8 by omega) (show 8 < 2 ^ 31 by decide), nI_clamp (show o < 2 ^ 31 by omega), e1, if_pos (le_t (Nat.le_refl (8 * o + szN (c 26 0) o)) (show 8 * o + szN (c 26 0) o < 2 ^ 31 by omega)), ih]
    rw [anyB_s, Bool.or_assoc]
theorem s121 (h : Lay x l n) (hN : n.1 ≤ 8) (hn : c 18 0 8 = nI n.1) (hZ : SzM n.1 (c 26 0)) {r k : Nat} {s : Int32} (hr : r < 8) (hk : k < 64) : CL x 121 [.ref (l.1 18 0), .int (nI r), .int (nI k), .int s] (Wo x l n c) K = K (.inl (some (.int (bI (shrM (c 24 0) (c 25 0) (c 26 0) (c 27 0) n.1 r k s))))) (Wo x l n c) := by
  rw [CL_121]
  have e := s121_l h hN hn hZ (s := s) hr hk (c := c) (mc := 0) (ms := 0) (post := K) n.1 0 false none (Nat.zero_add _)
  rw [bI_f, Bool.false_or] at e
  simp only [t_121_0, t_121_1, t_121_3, t_121_4, e, shrM]
theorem s123_a {S : Int32} (h0 : hs S (nI 0) = true) {l0 l1 l2 l4 l5 l6 l8 l9 : Option Value} : ∀ (a : Nat), a < 2 ^ 31 → WP x 123 31 [l0, l1, l2, some (.int S), l4, l5, l6, some (.int (nI a)), l8, l9] [] w mc ms post = WP x 123 46 [l0, l1, l2, some (.int S), l4, l5, l6, some (.int (nI (ahd S a))), l8, l9] [] w mc ms post
  | 0, ha => by
    rw [t_123_31]
    simp only [t_123_32, t_123_34, t_123_37, t_123_40, t_123_43, Nat.reduceLeDiff, Nat.reduceSub, z0_t, z1_f, z1_t, true_or, or_true,  if_true, if_false, Bool.false_eq_true, aft_v, aft_n, aftN_v, aftN_n, qwV_s, qwV_0, bI_if, bI_ok, bI_ok0, bI_ok1, true_and, s113, h0, ahd]
  | a + 1, ha => by
    have ih := s123_a h0 (l0 := l0) (l1 := l1) (l2 := l2) (l4 := l4) (l5 := l5) (l6 := l6) (l8 := l8) (l9 := l9) a (by omega)
    rw [t_123_31]
    simp only [t_123_32, t_123_34, t_123_37, t_123_40, t_123_43, Nat.reduceLeDiff, Nat.reduceSub, z0_t, z1_f, z1_t, true_or, or_true,  if_true, if_false, Bool.false_eq_true, aft_v, aft_n, aftN_v, aftN_n, qwV_s, qwV_0, bI_if, bI_ok, bI_ok0, bI_ok1, true_and, s113, pk_m1, ih]
    rw [ahd_s]
    cases hs S (nI (a + 1)) <;> simp
theorem s123_b {S : Int32} {z : Nat} (h0 : hs S (nI z) = true) {l0 l1 l2 l4 l5 l6 l7 l9 : Option Value} : ∀ (d b : Nat), b + d = z → WP x 123 52 [l0, l1, l2, some (.int S), l4, l5, l6, l7, some (.int (nI b)), l9] [] w mc ms post = WP x 123 67 [l0, l1, l2, some (.int S), l4, l5, l6, l7, some (.int (nI (bhd S d b))), l9] [] w mc ms post
  | 0, b, hb => by
    have e : b = z := by omega
    subst e
    rw [t_123_52]
    simp only [t_123_53, t_123_55, t_123_58, t_123_61, t_123_64, Nat.reduceLeDiff, Nat.reduceSub, z0_t, z1_f, z1_t, true_or, or_true,  if_true, if_false, Bool.false_eq_true, aft_v, aft_n, aftN_v, aftN_n, qwV_s, qwV_0, bI_if, bI_ok, bI_ok0, bI_ok1, true_and, s113, h0, bhd]
  | d + 1, b, hb => by
    have ih := s123_b h0 (l0 := l0) (l1 := l1) (l2 := l2) (l4 := l4) (l5 := l5) (l6 := l6) (l7 := l7) (l9 := l9) d (b + 1) (by omega)
    rw [t_123_52]
    simp only [t_123_53, t_123_55, t_123_58, t_123_61, t_123_64, Nat.reduceLeDiff, Nat.reduceSub, z0_t, z1_f, z1_t, true_or, or_true,  if_true, if_false, Bool.false_eq_true, aft_v, aft_n, aftN_v, aftN_n, qwV_s, qwV_0, bI_if, bI_ok, bI_ok0, bI_ok1, true_and, s113, nI_add, ih]
    rw [bhd_s]
    cases hs S (nI b) <;> simp
theorem s123_l (h : Lay x l n) (hN : n.1 ≤ 8) (hn : c 18 0 8 = nI n.1) (hZ : SzM n.1 (c 26 0)) {r : Nat} {s S : Int32} (hr : r < n.1) (h0 : hs S (nI 0) = true) (h1 : hs S (nI (szN (c 26 0) r - 1)) = true) : ∀ (d p : Nat) (a g : Int32) (l7 l8 l9 : Option Value), p + d = szN (c 26 0) r - 1 → 0 < p → WP x 123 12 [some (.ref (l.1 18 0)), some (.int (nI r)), some (.int s), some (.int S), some (.int g), some (.int a), some (.int (nI p)), l7, l8, l9] [] (Wo x l n c) mc ms post = post (.inl (some (.int (gF (fun p => hs S (nI p)) (fun p => shrM (c 24 0) (c 25 0) (c 26 0) (c 27 0) n.1 r (8 * r + p) s) (trM (c 24 0) (c 25 0) r S (szN (c 26 0) r)) d p a g)))) (Wo x l n c)
  | 0, p, a, g, l7, l8, l9, hj, hp => by
    obtain ⟨e1, e2, e3⟩ := hZ r hr
    rw [t_123_12]
    simp only [t_123_14, t_123_15, t_123_18, t_123_19, t_123_20, t_123_21, t_123_22, t_123_25, t_123_27, t_123_28, t_123_29, t_123_31, t_123_32, t_123_34, t_123_37, t_123_40, t_123_43, t_123_46, t_123_48, t_123_49, t_123_50, t_123_52, t_123_53, t_123_55, t_123_58, t_123_61, t_123_64, t_123_67, t_123_68, t_123_70, t_123_71, t_123_72, t_123_74, t_123_75, t_123_77, t_123_78, t_123_79, t_123_81, t_123_82, t_123_84, t_123_85, t_123_86, t_123_88, t_123_89, t_123_92, t_123_94, t_123_95, t_123_97, t_123_100, t_123_103, t_123_105, t_123_107, t_123_110, t_123_111, t_123_112, t_123_114, t_123_115, t_123_116, t_123_118, t_123_119, t_123_120, t_123_123, t_123_126, t_123_128, t_123_130, t_123_132, t_123_134, t_123_137, t_123_140, t_123_142, Nat.reduceLeDiff, Nat.reduceSub, z0_t, z1_f, z1_t, true_or, or_true,  if_true, if_false, Bool.false_eq_true, aft_v, aft_n, aftN_v, aftN_n, qwV_s, qwV_0, bI_if, bI_ok, bI_ok0, bI_ok1, true_and, f_18_0 h, f_18_1 h, f_18_2 h, f_18_3 h, f_18_4 h, f_18_5 h, f_18_6 h, f_18_7 h, f_18_8 h, f_18_9 h, f_18_10 h, f_18_11 h, f_18_12 h, f_18_13 h, f_18_14 h, f_18_15 h, f_18_16 h, f_18_17 h, f_18_18 h, f_18_19 h, f_18_20 h, f_18_21 h, f_18_22 h, f_18_23 h, f_18_24 h, f_18_25 h, f_18_26 h, f_18_27 h, rL_21 h, rL_22 h, rL_24 h, rL_25 h, rL_26 h, rL_27 h, rL_29 h, rL_30 h, rL_31 h, rL_32 h, rL_34 h, rL_35 h, rL_36 h, rL_37 h, rL_38 h, rL_39 h, rL_40 h, rL_43 h, rL_44 h, rL_45 h, rL_46 h, rL_47 h, rI_41 h, vp_in_nI (show r < 8 by omega) (show 8 < 2 ^ 31 by decide), nI_clamp (show r < 2 ^ 31 by omega), e1, pk_sub (show 1 ≤ szN (c 26 0) r by omega), if_pos (le_t (show szN (c 26 0) r - 1 ≤ p by omega) (show p < 2 ^ 31 by omega)), gF_0]
  | d + 1, p, a, g, l7, l8, l9, hj, hp => by
    obtain ⟨e1, e2, e3⟩ := hZ r hr
    have ih := fun a g l7 l8 l9 => s123_l h hN hn hZ hr h0 h1 (s := s) d (p + 1) a g l7 l8 l9 (by omega) (by omega)
    have pa : ahd S (p - 1) < 8 := Nat.lt_of_le_of_lt ahd_le (by omega)
    have pb : bhd S (szN (c 26 0) r - 1 - (p + 1)) (p + 1) < 8 := Nat.lt_of_le_of_lt bhd_le.2 (by omega)
    rw [t_123_12]
    simp only [t_123_14, t_123_15, t_123_18, t_123_19, t_123_20, t_123_21, t_123_22, t_123_25, t_123_27, t_123_28, t_123_29, Nat.reduceLeDiff, Nat.reduceSub, z0_t, z1_f, z1_t, true_or, or_true,  if_true, if_false, Bool.false_eq_true, aft_v, aft_n, aftN_v, aftN_n, qwV_s, qwV_0, bI_if, bI_ok, bI_ok0, bI_ok1, true_and, f_18_0 h, f_18_1 h, f_18_2 h, f_18_3 h, f_18_4 h, f_18_5 h, f_18_6 h, f_18_7 h, f_18_8 h, f_18_9 h, f_18_10 h, f_18_11 h, f_18_12 h, f_18_13 h, f_18_14 h, f_18_15 h, f_18_16 h, f_18_17 h, f_18_18 h, f_18_19 h, f_18_20 h, f_18_21 h, f_18_22 h, f_18_23 h, f_18_24 h, f_18_25 h, f_18_26 h, f_18_27 h, rL_21 h, rL_22 h, rL_24 h, rL_25 h, rL_26 h, rL_27 h, rL_29 h, rL_30 h, rL_31 h, rL_32 h, rL_34 h, rL_35 h, rL_36 h, rL_37 h, rL_38 h, rL_39 h, rL_40 h, rL_43 h, rL_44 h, rL_45 h, rL_46 h, rL_47 h, rI_41 h, vp_in_nI (show r < 8 by omega) (show 8 < 2 ^ 31 by decide), nI_clamp (show r < 2 ^ 31 by omega), e1, pk_sub (show 1 ≤ szN (c 26 0) r by omega), if_neg (le_f (show p < szN (c 26 0) r - 1 by omega) (show szN (c 26 0) r - 1 < 2 ^ 31 by omega)), pk_sub (show 1 ≤ p by omega), s123_a h0 (p - 1) (by omega), t_123_46, t_123_48, t_123_49, t_123_50, nI_add, s123_b h1 (szN (c 26 0) r - 1 - (p + 1)) (p + 1) (by omega)]
    simp only [t_123_67, t_123_68, t_123_70, t_123_71, t_123_72, t_123_74, t_123_75, t_123_77, t_123_78, t_123_79, t_123_81, t_123_82, t_123_84, t_123_85, t_123_86, t_123_88, t_123_89, t_123_92, t_123_94, t_123_95, t_123_97, t_123_100, t_123_103, t_123_105, t_123_107, t_123_110, t_123_111, t_123_112, t_123_114, t_123_115, t_123_116, t_123_118, t_123_119, t_123_120, t_123_123, t_123_126, t_123_128, t_123_130, t_123_132, t_123_134, t_123_137, t_123_140, t_123_142, Nat.reduceLeDiff, Nat.reduceSub, z0_t, z1_f, z1_t, true_or, or_true,  if_true, if_false, Bool.false_eq_true, aft_v, aft_n, aftN_v, aftN_n, qwV_s, qwV_0, bI_if, bI_ok, bI_ok0, bI_ok1, true_and, k_0 h, k_1 h, k_2 h, k_4 h, k_5 h, k_7 h, k_18 h, pk_mul, nI_add, s122 h (show 8 * r + p < 64 by omega) (show 8 * r + ahd S (p - 1) < 64 by omega) (show 8 * r + bhd S (szN (c 26 0) r - 1 - (p + 1)) (p + 1) < 64 by omega), s113, s121 h hN hn hZ (show r < 8 by omega) (show 8 * r + p < 64 by omega), ih]
    rw [gF_s]
    unfold trM
    cases hs S (nI p) <;> by_cases h2 : a ≤ triM (c 24 0) (c 25 0) (8 * r + p) (8 * r + ahd S (p - 1)) (8 * r + bhd S (szN (c 26 0) r - 1 - (p + 1)) (p + 1)) <;> cases shrM (c 24 0) (c 25 0) (c 26 0) (c 27 0) n.1 r (8 * r + p) s <;> simp [h2]
theorem s123 (h : Lay x l n) (hN : n.1 ≤ 8) (hn : c 18 0 8 = nI n.1) (hZ : SzM n.1 (c 26 0)) {r : Nat} {s S : Int32} (hr : r < n.1) (h0 : hs S (nI 0) = true) (h1 : hs S (nI (szN (c 26 0) r - 1)) = true) : CL x 123 [.ref (l.1 18 0), .int (nI r), .int s, .int S] (Wo x l n c) K = K (.inl (some (.int (goesM (c 24 0) (c 25 0) (c 26 0) (c 27 0) n.1 r S s)))) (Wo x l n c) := by
  obtain ⟨e1, e2, e3⟩ := hZ r hr
  rw [CL_123]
  simp only [t_123_0, t_123_1, t_123_3, t_123_5, t_123_6, t_123_7, t_123_9, t_123_10, s123_l h hN hn hZ hr h0 h1 (szN (c 26 0) r - 1 - 1) 1 _ _ _ _ _ (by omega) (by decide), goesM]
theorem goesM_in {X Y Z RK : Fn1} {N r : Nat} {S s : Int32} : goesM X Y Z RK N r S s = -1 ∨ ∃ q, 1 ≤ q ∧ q < szN Z r - 1 ∧ hs S (nI q) = true ∧ goesM X Y Z RK N r S s = nI q := by
  unfold goesM
  rcases gF_in (bit := fun p => hs S (nI p)) (met := fun p => shrM X Y Z RK N r (8 * r + p) s) (tri := trM X Y r S (szN Z r)) (d := szN Z r - 1 - 1) (p := 1) (a := nI 20 * s) (g := -1) with q | ⟨q, h1, h2, h3, h4⟩
  · exact Or.inl q
  · exact Or.inr ⟨q, h1, by omega, h3, h4⟩
theorem nI_m1 {q : Nat} (h : q < 2 ^ 31) : ¬ nI q = -1 := fun z => by
  have := nI_pos' h
  rw [z] at this
  exact absurd this (by decide)
theorem s124_l (h : Lay x l n) (hN : n.1 ≤ 8) (hn : c 18 0 8 = nI n.1) (hZ : SzM n.1 (c 26 0)) {r : Nat} {s : Int32} (hr : r < n.1) : ∀ (f T : Nat), T < 256 → pcN T ≤ f → T.testBit 0 = true → T.testBit (szN (c 26 0) r - 1) = true → WP x 124 31 [some (.ref (l.1 18 0)), some (.int (nI r)), some (.int s), some (.int (nI T)), some (.int (goesM (c 24 0) (c 25 0) (c 26 0) (c 27 0) n.1 r (nI T) s))] [] (Wo x l n c) mc ms post = post (.inl (some (.int (lF (fun S => goesM (c 24 0) (c 25 0) (c 26 0) (c 27 0) n.1 r S s) f (nI T))))) (Wo x l n c)
  | 0, T, hT, hf, b0, b1 => by
    exfalso
    have : 0 < pcN T := List.length_pos_of_mem (List.mem_filter.mpr ⟨List.mem_range.mpr (show 0 < 8 by decide), b0⟩)
    omega
  | f + 1, T, hT, hf, b0, b1 => by
    obtain ⟨e1, e2, e3⟩ := hZ r hr
    rw [t_124_31, lF_s]
    rcases goesM_in (X := c 24 0) (Y := c 25 0) (Z := c 26 0) (RK := c 27 0) (N := n.1) (r := r) (S := nI T) (s := s) with q | ⟨q, q1, q2, q3, q4⟩
    · simp only [t_124_33, t_124_34, t_124_37, t_124_38, t_124_39, t_124_41, t_124_42, t_124_43, t_124_44, t_124_45, t_124_46, t_124_47, t_124_48, t_124_51, t_124_53, t_124_56, t_124_57, Nat.reduceLeDiff, Nat.reduceSub, z0_t, z1_f, z1_t, true_or, or_true,  if_true, if_false, Bool.false_eq_true, aft_v, aft_n, aftN_v, aftN_n, qwV_s, qwV_0, bI_if, bI_ok, bI_ok0, bI_ok1, true_and, q, if_true]
    · rw [hs_bit T hT q (by omega)] at q3
      obtain ⟨o1, o2, o3, o4⟩ := off_bit T hT q (by omega) q3
      have c0 : (T ^^^ 2 ^ q).testBit 0 = true := by rw [off_ne (by omega)]; exact b0
      have c1 : (T ^^^ 2 ^ q).testBit (szN (c 26 0) r - 1) = true := by rw [off_ne (by omega)]; exact b1
      have ih := s124_l h hN hn hZ hr (s := s) f (T ^^^ 2 ^ q) o3 (by omega) c0 c1
      simp only [t_124_33, t_124_34, t_124_37, t_124_38, t_124_39, t_124_41, t_124_42, t_124_43, t_124_44, t_124_45, t_124_46, t_124_47, t_124_48, t_124_51, t_124_53, t_124_56, t_124_57, Nat.reduceLeDiff, Nat.reduceSub, z0_t, z1_f, z1_t, true_or, or_true,  if_true, if_false, Bool.false_eq_true, aft_v, aft_n, aftN_v, aftN_n, qwV_s, qwV_0, bI_if, bI_ok, bI_ok0, bI_ok1, true_and, k_0 h, k_1 h, k_2 h, k_4 h, k_5 h, k_7 h, k_18 h, q4, if_neg (nI_m1 (show q < 2 ^ 31 by omega)), o1, o2, s123 h hN hn hZ hr (show hs (nI (T ^^^ 2 ^ q)) (nI 0) = true by rw [hs_bit _ o3 _ (by decide)]; exact c0) (show hs (nI (T ^^^ 2 ^ q)) (nI (szN (c 26 0) r - 1)) = true by rw [hs_bit _ o3 _ (by omega)]; exact c1), ih]
theorem s124 (h : Lay x l n) (hN : n.1 ≤ 8) (hn : c 18 0 8 = nI n.1) (hZ : SzM n.1 (c 26 0)) {r : Nat} {s : Int32} (hr : r < n.1) : CL x 124 [.ref (l.1 18 0), .int (nI r), .int s] (Wo x l n c) K = K (.inl (some (.int (leftM (c 24 0) (c 25 0) (c 26 0) (c 27 0) n.1 r s)))) (Wo x l n c) := by
  obtain ⟨e1, e2, e3⟩ := hZ r hr
  obtain ⟨a1, a2, a3, a4⟩ := all_bit (szN (c 26 0) r) e3
  have c0 : (2 ^ szN (c 26 0) r - 1).testBit 0 = true := by rw [a4 0 (by decide)]; exact decide_eq_true (by omega)
  have c1 : (2 ^ szN (c 26 0) r - 1).testBit (szN (c 26 0) r - 1) = true := by rw [a4 _ (by omega)]; exact decide_eq_true (by omega)
  rw [CL_124]
  simp only [t_124_0, t_124_1, t_124_2, t_124_3, t_124_6, t_124_9, t_124_10, t_124_11, t_124_12, t_124_13, t_124_16, t_124_17, t_124_18, t_124_19, t_124_20, t_124_21, t_124_22, t_124_23, t_124_24, t_124_25, t_124_26, t_124_29, Nat.reduceLeDiff, Nat.reduceSub, z0_t, z1_f, z1_t, true_or, or_true,  if_true, if_false, Bool.false_eq_true, aft_v, aft_n, aftN_v, aftN_n, qwV_s, qwV_0, bI_if, bI_ok, bI_ok0, bI_ok1, true_and, k_0 h, k_1 h, k_2 h, k_4 h, k_5 h, k_7 h, k_18 h, f_18_0 h, f_18_1 h, f_18_2 h, f_18_3 h, f_18_4 h, f_18_5 h, f_18_6 h, f_18_7 h, f_18_8 h, f_18_9 h, f_18_10 h, f_18_11 h, f_18_12 h, f_18_13 h, f_18_14 h, f_18_15 h, f_18_16 h, f_18_17 h, f_18_18 h, f_18_19 h, f_18_20 h, f_18_21 h, f_18_22 h, f_18_23 h, f_18_24 h, f_18_25 h, f_18_26 h, f_18_27 h, rL_21 h, rL_22 h, rL_24 h, rL_25 h, rL_26 h, rL_27 h, rL_29 h, rL_30 h, rL_31 h, rL_32 h, rL_34 h, rL_35 h, rL_36 h, rL_37 h, rL_38 h, rL_39 h, rL_40 h, rL_43 h, rL_44 h, rL_45 h, rL_46 h, rL_47 h, rI_41 h, s120 h (show r < 8 by omega), vp_in_nI (show r < 8 by omega) (show 8 < 2 ^ 31 by decide), nI_clamp (show r < 2 ^ 31 by omega), e1, a1, s123 h hN hn hZ hr (show hs (nI (2 ^ szN (c 26 0) r - 1)) (nI 0) = true by rw [hs_bit _ a2 _ (by decide)]; exact c0) (show hs (nI (2 ^ szN (c 26 0) r - 1)) (nI (szN (c 26 0) r - 1)) = true by rw [hs_bit _ a2 _ (by omega)]; exact c1), s124_l h hN hn hZ hr 8 (2 ^ szN (c 26 0) r - 1) a2 (by omega) c0 c1, leftM]
  by_cases q : c 27 0 r < s <;> simp [q]
end
