/-! what the law asks of a road -/
section
variable {x : Cx} {l : Ly} {n : Nn} {c : Cc} {mc ms : Nat} {K post : Po} {r sz k j : Nat}
theorem ir_cnt {l0 l1 l2 l3 l4 l5 l6 : Option Value} {w : Wd} {S : Int32} : ∀ (d p : Nat) (a : Int32), p + d = 8 → WP x 105 39 [l0, l1, l2, l3, l4, l5, l6, some (.int S), some (.int a), some (.int (nI p))] [] w mc ms post = WP x 105 64 [l0, l1, l2, l3, l4, l5, l6, some (.int S), some (.int (smF S d p a)), some (.int (nI 8))] [] w mc ms post
  | 0, p, a, hp => by
    have hp8 : p = 8 := by omega
    subst hp8
    rw [t_105_39]
    simp only [t_105_41, t_105_43, decide_true, decide_false, Bool.not_true, Bool.not_false, Nat.reduceLeDiff, Nat.reduceSub, z0_t, z1_f, z1_t, true_or, or_true,  if_true, if_false, Bool.false_eq_true, aft_v, aft_n, aftN_v, aftN_n, qwV_s, qwV_0, bI_if, bI_ok, bI_ok0, bI_ok1, true_and, if_pos (le_t (Nat.le_refl 8) (show 8 < 2 ^ 31 by decide)), smF_0]
  | d + 1, p, a, hp => by
    have ih := fun a => ir_cnt (l0 := l0) (l1 := l1) (l2 := l2) (l3 := l3) (l4 := l4) (l5 := l5) (l6 := l6) (w := w) (S := S) d (p + 1) a (by omega)
    rw [t_105_39]
    simp only [t_105_41, t_105_43, t_105_46, t_105_48, t_105_50, t_105_52, t_105_53, t_105_54, t_105_55, t_105_56, t_105_58, t_105_61, decide_true, decide_false, Bool.not_true, Bool.not_false, Nat.reduceLeDiff, Nat.reduceSub, z0_t, z1_f, z1_t, true_or, or_true,  if_true, if_false, Bool.false_eq_true, aft_v, aft_n, aftN_v, aftN_n, qwV_s, qwV_0, bI_if, bI_ok, bI_ok0, bI_ok1, true_and, if_neg (le_f (show p < 8 by omega) (show 8 < 2 ^ 31 by decide)), nI_add, ih]
    rw [smF_s]
/-- one scale -/
theorem ir_scale (h : Lay x l n) (hI : Inv n c) (hr : r < n.1) (hz : c 9 r 2 = nI sz) (h2 : 2 ≤ sz) (h8 : sz ≤ 8) (hk : k ≤ 3) (hk2 : c 9 r 3 = nI k) (hj : j < 4) (h1 : 4 ≤ mc) (h1' : 24 ≤ ms) {l7 l8 l9 : Option Value}
    (hK : ∀ l7 l8 l9 : Option Value, WP x 105 137 [some (.ref (l.1 0 0)), some (.int (nI r)), some (.int (nI sz)), some (.int (nI k)), some (.int (nI 1 <<< (nI sz &&& 31) - nI 1)), some (.int (nI 1)), some (.int (nI j)), l7, l8, l9] [.int (nI 1)] (Wo x l n c) (mc - 2 - 2) (ms - 12 - 12) post) :
    WP x 105 24 [some (.ref (l.1 0 0)), some (.int (nI r)), some (.int (nI sz)), some (.int (nI k)), some (.int (nI 1 <<< (nI sz &&& 31) - nI 1)), some (.int (nI 1)), some (.int (nI j)), l7, l8, l9] [] (Wo x l n c) mc ms post := by
  obtain ⟨i1, ⟨r1, r2, r3⟩, i3, i4⟩ := hI
  have hzO : szO (c 9) r = sz := szO_nI hz (by omega)
  have hl := r3 r hr j hj
  simp only [t_105_24, t_105_25, t_105_26, t_105_28, t_105_31, decide_true, decide_false, Bool.not_true, Bool.not_false, Nat.reduceLeDiff, Nat.reduceSub, z0_t, z1_f, z1_t, true_or, or_true,  if_true, if_false, Bool.false_eq_true, aft_v, aft_n, aftN_v, aftN_n, qwV_s, qwV_0, bI_if, bI_ok, bI_ok0, bI_ok1, true_and, k_0 h, k_1 h, k_2 h, k_4 h, k_5 h, k_7 h, show (2 ≤ mc) = True from eq_true (by omega), show (12 ≤ ms) = True from eq_true (by omega), q79 h i1 hr hj]
  simp only [t_105_33, t_105_34, t_105_36, t_105_37, ir_cnt 8 0 (nI 0) rfl]
  simp only [t_105_64, t_105_66, t_105_67, t_105_68, t_105_70, t_105_73, decide_true, decide_false, Bool.not_true, Bool.not_false, Nat.reduceLeDiff, Nat.reduceSub, z0_t, z1_f, z1_t, true_or, or_true,  if_true, if_false, Bool.false_eq_true, aft_v, aft_n, aftN_v, aftN_n, qwV_s, qwV_0, bI_if, bI_ok, bI_ok0, bI_ok1, true_and, k_0 h, k_1 h, k_2 h, k_4 h, k_5 h, k_7 h, show (2 ≤ mc - 2) = True from eq_true (by omega), show (12 ≤ ms - 12) = True from eq_true (by omega), q78 h i1 hr hj]
  rcases left_C (B := c 10) (N := n.1) (s := nI j) (by rw [hzO]; exact hz) (by omega) (by omega) with ⟨e, e'⟩ | ⟨e, T, e', t1, t2, t3, t4, t5⟩
  · rw [hl, e']
    rw [hk2] at e
    have hkj : k < j := (nI_ltI (by omega) (by omega)).mp e
    rw [if_pos (sm_bc 0 (by decide))]
    simp only [t_105_76, t_105_78, t_105_79, t_105_82, t_105_84, t_105_87, decide_true, decide_false, Bool.not_true, Bool.not_false, Nat.reduceLeDiff, Nat.reduceSub, z0_t, z1_f, z1_t, true_or, or_true,  if_true, if_false, Bool.false_eq_true, aft_v, aft_n, aftN_v, aftN_n, qwV_s, qwV_0, bI_if, bI_ok, bI_ok0, bI_ok1, true_and, if_neg (le_f hkj (show j < 2 ^ 31 by omega)), if_pos nI_0]
    simp only [t_105_120, t_105_122, t_105_125, t_105_127, t_105_129, t_105_132, t_105_133, t_105_136, decide_true, decide_false, Bool.not_true, Bool.not_false, Nat.reduceLeDiff, Nat.reduceSub, z0_t, z1_f, z1_t, true_or, or_true,  if_true, if_false, Bool.false_eq_true, aft_v, aft_n, aftN_v, aftN_n, qwV_s, qwV_0, bI_if, bI_ok, bI_ok0, bI_ok1, true_and, if_pos (show (0 : Int32) < nI j from by rw [← nI_0]; exact lt_t (show 0 < j by omega) (by omega))]
    exact hK _ _ _
  · rw [hl, e']
    rw [hk2] at e
    have hkj : j ≤ k := by
      by_cases z : j ≤ k
      · exact z
      · exact absurd (lt_t (show k < j by omega) (by omega)) e
    rw [hzO] at t3 t4
    have b0 := bit_0 T t1 t2
    have bz := bit_z T t1 sz h8 (by omega) t3
    have bo := bit_out T t1 sz h8 t4
    rw [if_pos (sm_bc T t1)]
    simp only [t_105_76, t_105_78, t_105_79, t_105_82, t_105_84, t_105_87, t_105_90, t_105_92, t_105_93, t_105_94, t_105_95, t_105_98, t_105_100, t_105_101, t_105_102, t_105_103, t_105_104, t_105_105, t_105_106, t_105_107, t_105_110, t_105_112, t_105_114, t_105_115, t_105_116, t_105_117, decide_true, decide_false, Bool.not_true, Bool.not_false, Nat.reduceLeDiff, Nat.reduceSub, z0_t, z1_f, z1_t, true_or, or_true,  if_true, if_false, Bool.false_eq_true, aft_v, aft_n, aftN_v, aftN_n, qwV_s, qwV_0, bI_if, bI_ok, bI_ok0, bI_ok1, true_and, if_pos (le_t hkj (show k < 2 ^ 31 by omega)), b0, bz, bo]
    by_cases z : j = 0
    · have eT : nI T = nI 1 <<< (nI sz &&& 31) - nI 1 := by
        rw [← e', z, left_0 (by omega) (fun p hp => r2 r (by omega) p hp) (by rw [hk2]; exact nI_nlt (Nat.zero_le k) (by omega))]
        unfold allP
        rw [hz]
      subst z
      simp only [t_105_120, t_105_122, t_105_125, t_105_127, t_105_129, t_105_132, t_105_133, t_105_136, decide_true, decide_false, Bool.not_true, Bool.not_false, Nat.reduceLeDiff, Nat.reduceSub, z0_t, z1_f, z1_t, true_or, or_true,  if_true, if_false, Bool.false_eq_true, aft_v, aft_n, aftN_v, aftN_n, qwV_s, qwV_0, bI_if, bI_ok, bI_ok0, bI_ok1, true_and, if_neg (show ¬ (0 : Int32) < nI 0 by decide), if_pos eT]
      exact hK _ _ _
    · simp only [t_105_120, t_105_122, t_105_125, t_105_127, t_105_129, t_105_132, t_105_133, t_105_136, decide_true, decide_false, Bool.not_true, Bool.not_false, Nat.reduceLeDiff, Nat.reduceSub, z0_t, z1_f, z1_t, true_or, or_true,  if_true, if_false, Bool.false_eq_true, aft_v, aft_n, aftN_v, aftN_n, qwV_s, qwV_0, bI_if, bI_ok, bI_ok0, bI_ok1, true_and, if_pos (show (0 : Int32) < nI j from by rw [← nI_0]; exact lt_t (show 0 < j by omega) (by omega))]
      exact hK _ _ _
theorem ir_loop (h : Lay x l n) (hI : Inv n c) (hr : r < n.1) (hz : c 9 r 2 = nI sz) (h2 : 2 ≤ sz) (h8 : sz ≤ 8) (hk : k ≤ 3) (hk2 : c 9 r 3 = nI k) (hp : post (.inl (some (.int (nI 1)))) (Wo x l n c)) : ∀ (d j mc ms : Nat) (l7 l8 l9 : Option Value), j + d = 4 → 4 * d + 2 ≤ mc → 24 * d + 12 ≤ ms →
    WP x 105 13 [some (.ref (l.1 0 0)), some (.int (nI r)), some (.int (nI sz)), some (.int (nI k)), some (.int (nI 1 <<< (nI sz &&& 31) - nI 1)), some (.int (nI 1)), some (.int (nI j)), l7, l8, l9] [] (Wo x l n c) mc ms post
  | 0, j, mc, ms, l7, l8, l9, hj, hm, hs' => by
    obtain ⟨i1, ⟨r1, r2, r3⟩, i3, i4⟩ := hI
    have hm4 : mtL (c 9) (c 10) (c 11) n.1 (nI k) = mtA (c 9) (c 10) n.1 (nI k) := mt_eq (fun i hi => i1.2.2.2.2.1 i (by have := i1.1; omega)) i1.2.2.2.2.2.1 (fun i hi => by rw [rdA_in (show k < 4 by omega) (by decide)]; exact r3 i hi k (by omega))
    rw [t_105_13]
    simp only [t_105_15, t_105_16, decide_true, decide_false, Bool.not_true, Bool.not_false, Nat.reduceLeDiff, Nat.reduceSub, z0_t, z1_f, z1_t, true_or, or_true,  if_true, if_false, Bool.false_eq_true, aft_v, aft_n, aftN_v, aftN_n, qwV_s, qwV_0, bI_if, bI_ok, bI_ok0, bI_ok1, true_and, if_pos (le_t (show 4 ≤ j by omega) (show j < 2 ^ 31 by omega))]
    simp only [t_105_145, t_105_147, t_105_150, t_105_151, t_105_152, t_105_155, t_105_156, t_105_157, t_105_160, t_105_163, t_105_164, t_105_167, t_105_168, decide_true, decide_false, Bool.not_true, Bool.not_false, Nat.reduceLeDiff, Nat.reduceSub, z0_t, z1_f, z1_t, true_or, or_true,  if_true, if_false, Bool.false_eq_true, aft_v, aft_n, aftN_v, aftN_n, qwV_s, qwV_0, bI_if, bI_ok, bI_ok0, bI_ok1, true_and, k_0 h, k_1 h, k_2 h, k_4 h, k_5 h, k_7 h, show (1 ≤ mc) = True from eq_true (by omega), show (6 ≤ ms) = True from eq_true (by omega), show (1 ≤ mc - 1) = True from eq_true (by omega), show (6 ≤ ms - 6) = True from eq_true (by omega), q80 h i1 (show k < 4 by omega), q81 h i1 (show k < 4 by omega), hm4]
    exact hp
  | d + 1, j, mc, ms, l7, l8, l9, hj, hm, hs' => by
    rw [t_105_13]
    simp only [t_105_15, t_105_16, t_105_19, t_105_21, decide_true, decide_false, Bool.not_true, Bool.not_false, Nat.reduceLeDiff, Nat.reduceSub, z0_t, z1_f, z1_t, true_or, or_true,  if_true, if_false, Bool.false_eq_true, aft_v, aft_n, aftN_v, aftN_n, qwV_s, qwV_0, bI_if, bI_ok, bI_ok0, bI_ok1, true_and, if_neg (le_f (show j < 4 by omega) (show 4 < 2 ^ 31 by decide))]
    refine ir_scale h hI hr hz h2 h8 hk hk2 (by omega) (by omega) (by omega) (fun l7 l8 l9 => ?_)
    rw [t_105_137, t_105_139, t_105_142, nI_add]
    exact ir_loop h hI hr hz h2 h8 hk hk2 hp d (j + 1) _ _ _ _ _ (by omega) (by omega) (by omega)
/-- isRoad -/
theorem isRoad_w (h : Lay x l n) (hI : Inv n c) (hr : r < n.1) (hz : c 9 r 2 = nI sz) (h2 : 2 ≤ sz) (h8 : sz ≤ 8) (hk : k ≤ 3) (hk2 : c 9 r 3 = nI k) (hp : K (.inl (some (.int (nI 1)))) (Wo x l n c)) : CL x 105 [.ref (l.1 0 0), .int (nI r), .int (nI sz), .int (nI k)] (Wo x l n c) K := by
  rw [CL_105]
  simp only [t_105_0, t_105_1, t_105_2, t_105_3, t_105_4, t_105_5, t_105_7, t_105_8, t_105_10, t_105_11, decide_true, decide_false, Bool.not_true, Bool.not_false, Nat.reduceLeDiff, Nat.reduceSub, z0_t, z1_f, z1_t, true_or, or_true,  if_true, if_false, Bool.false_eq_true, aft_v, aft_n, aftN_v, aftN_n, qwV_s, qwV_0, bI_if, bI_ok, bI_ok0, bI_ok1, true_and]
  exact ir_loop h hI hr hz h2 h8 hk hk2 hp 4 0 _ _ _ _ _ rfl (by decide) (by decide)
end
