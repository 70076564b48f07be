/-! what the law asks of a sheet -/
theorem nq2 : (¬ nI 2 = 0) = True := eq_true (by decide)
theorem nq10 : (¬ nI 10 = 0) = True := eq_true (by decide)
theorem nq40 : (¬ nI 40 = 0) = True := eq_true (by decide)
theorem nq1e4 : (¬ nI 10000 = 0) = True := eq_true (by decide)
theorem nq1e5 : (¬ nI 100000 = 0) = True := eq_true (by decide)
section
variable {L R X Y : Nat}
theorem na_b (hL : L ≤ 8) (hR : R ≤ 3) (hX : X < 40) (hY : Y < 40) : naV L R X Y < 400000 := by unfold naV; omega
theorem na_L (hL : L ≤ 8) (hR : R ≤ 3) (hX : X < 40) (hY : Y < 40) : nI (naV L R X Y) / nI 10000 - nI (naV L R X Y) / nI 10000 / nI 10 * nI 10 = nI L := by
  have hb := na_b hL hR hX hY
  rw [pk_div (by omega) (by decide) (by decide), pk_rem (by omega) (by decide) (by decide)]
  congr 1
  unfold naV
  omega
theorem na_X (hL : L ≤ 8) (hR : R ≤ 3) (hX : X < 40) (hY : Y < 40) : nI (naV L R X Y) - nI (naV L R X Y) / nI 40 * nI 40 = nI X := by
  have hb := na_b hL hR hX hY
  rw [pk_rem (by omega) (by decide) (by decide)]
  congr 1
  unfold naV
  omega
theorem na_P (hL : L ≤ 8) (hR : R ≤ 3) (hX : X < 40) (hY : Y < 40) : nI (naV L R X Y) - nI (naV L R X Y) / nI 10000 * nI 10000 = nI (40 * Y + X) := by
  have hb := na_b hL hR hX hY
  rw [pk_rem (by omega) (by decide) (by decide)]
  congr 1
  unfold naV
  omega
theorem pl_Y (hX : X < 40) (hY : Y < 40) : nI (40 * Y + X) / nI 40 = nI Y := by
  rw [pk_div (by omega) (by decide) (by decide)]
  congr 1
  omega
theorem pl_X (hX : X < 40) (hY : Y < 40) : nI (40 * Y + X) - nI (40 * Y + X) / nI 40 * nI 40 = nI X := by
  rw [pk_rem (by omega) (by decide) (by decide)]
  congr 1
  omega
theorem na_R (hL : L ≤ 8) (hR : R ≤ 3) (hX : X < 40) (hY : Y < 40) : nI (naV L R X Y) / nI 100000 = nI R := by
  have hb := na_b hL hR hX hY
  rw [pk_div (by omega) (by decide) (by decide)]
  congr 1
  unfold naV
  omega
end
section
variable {x : Cx} {l : Ly} {n : Nn} {c d d1 : Cc} {mc ms : Nat} {K post : Po} {s m : Nat}
theorem tk_q {f f' : S2} {N : Nat} {G : Fn2} {st len : Int32} (hN : N ≤ 10) (h : Ag f f') : ltF (tkB f.1 G st len) N 0 = ltF (tkB f'.1 G st len) N 0 := ltF_c (fun q _ h2 => by unfold tkB; rw [(h q (by omega)).1])
/-- where the law looks for a label -/
theorem is_fa {w : Wd} {l0 l1 l2 l3 l4 l5 l6 l11 l12 : Option Value} {sd L X Y : Int32} : WP x 106 64 [l0, l1, l2, l3, l4, l5, l6, some (.int sd), some (.int L), some (.int X), some (.int Y), l11, l12] [] w mc ms post = WP x 106 124 [l0, l1, l2, l3, l4, l5, l6, some (.int sd), some (.int L), some (.int X), some (.int Y), some (.int (lbX X L sd)), some (.int (lbY Y sd))] [] w mc ms post := by
  unfold lbX lbY
  by_cases h0 : sd = 0
  · have h1 : ¬ sd = nI 1 := by rw [h0]; decide
    have h2 : ¬ sd = nI 2 := by rw [h0]; decide
    have h3 : ¬ sd = nI 3 := by rw [h0]; decide
    simp only [t_106_64, t_106_66, t_106_69, t_106_71, t_106_72, t_106_73, t_106_76, t_106_78, t_106_79, t_106_82, t_106_84, t_106_86, t_106_87, t_106_90, t_106_92, t_106_94, t_106_96, t_106_97, t_106_100, t_106_102, t_106_103, t_106_104, t_106_107, t_106_109, t_106_110, t_106_113, t_106_115, t_106_116, t_106_117, t_106_120, t_106_122, if_pos h0, if_neg h2, if_neg h3]
  · by_cases h1 : sd = nI 1
    · have h2 : ¬ sd = nI 2 := by rw [h1]; decide
      have h3 : ¬ sd = nI 3 := by rw [h1]; decide
      simp only [t_106_64, t_106_66, t_106_69, t_106_71, t_106_72, t_106_73, t_106_76, t_106_78, t_106_79, t_106_82, t_106_84, t_106_86, t_106_87, t_106_90, t_106_92, t_106_94, t_106_96, t_106_97, t_106_100, t_106_102, t_106_103, t_106_104, t_106_107, t_106_109, t_106_110, t_106_113, t_106_115, t_106_116, t_106_117, t_106_120, t_106_122, if_neg h0, if_pos h1, if_neg h2, if_neg h3]
    · by_cases h2 : sd = nI 2
      · simp only [t_106_64, t_106_66, t_106_69, t_106_71, t_106_72, t_106_73, t_106_76, t_106_78, t_106_79, t_106_82, t_106_84, t_106_86, t_106_87, t_106_90, t_106_92, t_106_94, t_106_96, t_106_97, t_106_100, t_106_102, t_106_103, t_106_104, t_106_107, t_106_109, t_106_110, t_106_113, t_106_115, t_106_116, t_106_117, t_106_120, t_106_122, if_neg h0, if_neg h1, if_pos h2]
      · by_cases h3 : sd = nI 3
        · simp only [t_106_64, t_106_66, t_106_69, t_106_71, t_106_72, t_106_73, t_106_76, t_106_78, t_106_79, t_106_82, t_106_84, t_106_86, t_106_87, t_106_90, t_106_92, t_106_94, t_106_96, t_106_97, t_106_100, t_106_102, t_106_103, t_106_104, t_106_107, t_106_109, t_106_110, t_106_113, t_106_115, t_106_116, t_106_117, t_106_120, t_106_122, if_neg h0, if_neg h1, if_neg h2, if_pos h3]
        · simp only [t_106_64, t_106_66, t_106_69, t_106_71, t_106_72, t_106_73, t_106_76, t_106_78, t_106_79, t_106_82, t_106_84, t_106_86, t_106_87, t_106_90, t_106_92, t_106_94, t_106_96, t_106_97, t_106_100, t_106_102, t_106_103, t_106_104, t_106_107, t_106_109, t_106_110, t_106_113, t_106_115, t_106_116, t_106_117, t_106_120, t_106_122, if_neg h0, if_neg h1, if_neg h2, if_neg h3]
/-- one name -/
theorem is_name (h : Lay x l n) (hI : Inv n d) (hs' : s < n.2.2.1) (hm : m < n.2.1) (h1 : 8 ≤ mc) (h2 : 48 ≤ ms) {l7 l8 l9 l10 l11 l12 : Option Value}
    (hK : ∀ (d' : Cc) (mc' ms' : Nat) (l7 l8 l9 l10 l11 l12 : Option Value), Sq d d' → mc ≤ mc' + 8 → ms ≤ ms' + 48 → WP x 106 289 [some (.ref (l.1 0 0)), some (.ref (l.1 20 0)), some (.ref (l.1 21 0)), some (.int (nI s)), some (.int (nI n.2.1)), some (.int (nI 1)), some (.int (nI m)), l7, l8, l9, l10, l11, l12] [] (Wo x l n d') mc' ms' post) :
    WP x 106 20 [some (.ref (l.1 0 0)), some (.ref (l.1 20 0)), some (.ref (l.1 21 0)), some (.int (nI s)), some (.int (nI n.2.1)), some (.int (nI 1)), some (.int (nI m)), l7, l8, l9, l10, l11, l12] [] (Wo x l n d) mc ms post := by
  have hN2 := hI.1.2.1
  have hN3 := hI.1.2.2.1
  obtain ⟨⟨sc, a, b, r, t, g, u1, u2, u3⟩, ⟨kk, _⟩, u4⟩ := hI.2.2.2 s hs'
  obtain ⟨L, R, X, Y, nd, ne⟩ := hI.2.2.1 m hm
  obtain ⟨l1, l8', hR, hX, hY, eL, eR, eX, eY⟩ := id nd
  obtain ⟨ha, hb, hr, ht, hg, ua, ub, ur, ut, ug⟩ := id u2
  have hG : ∀ o, o < n.2.1 → ∃ L R X Y, NmD (d 12) o L R X Y := fun o ho => by
    obtain ⟨L, R, X, Y, z, _⟩ := hI.2.2.1 o ho
    exact ⟨L, R, X, Y, z⟩
  have esc : scO (d 13) s = sc := by
    unfold scO
    rw [u3, nI_clamp (by omega)]
  have hJ : LbJ n.2.1 (d 12) (d 13 s) sc (lbls n d s) := by
    unfold lbls
    rw [esc]
    exact lb_A hN2 hG u2 u1
  simp only [t_106_20, t_106_21, t_106_22, t_106_24, decide_true, decide_false, Bool.not_true, Bool.not_false, Nat.reduceLeDiff, Nat.reduceSub, z0_t, z1_f, z1_t, true_or, or_true,  if_true, if_false, Bool.false_eq_true, aft_v, aft_n, aftN_v, aftN_n, qwV_s, qwV_0, bI_if, bI_ok, bI_ok0, bI_ok1, true_and, k_0 h, k_1 h, k_2 h, k_4 h, k_5 h, k_7 h, show (2 ≤ mc) = True from eq_true (by omega), show (12 ≤ ms) = True from eq_true (by omega), q83 h hI.1 hs' hm]
  have hq := Sq_cL (c := d) (f := lbls n d s)
  have hA := lbls_q (s := s) hN2 (Sq_D (s := s) hq)
  generalize hsd : (lbls n d s).2 m = sd
  generalize cL d 0 (lbls n d s) = d1 at *
  have hI1 := Inv_q hI hq
  have e20 : d1 20 0 m = nI (naV L R X Y) := by rw [Sq_k hq (by omega)]; exact ne
  have e12 : d1 12 = d 12 := Sq_k hq (by omega)
  have e21 : ∀ j, j < 6 → d1 21 0 (6 * s + j) = d 13 s j := fun j hj => by rw [Sq_k hq (by omega)]; exact u4 j hj
  have v0 : d1 21 0 (6 * s) = nI sc := (e21 0 (by omega)).trans u3
  have v1 := (e21 1 (by omega)).trans ua
  have v2 := (e21 2 (by omega)).trans ub
  have v3 := (e21 3 (by omega)).trans ur
  have v4 := (e21 4 (by omega)).trans ut
  have v5 := (e21 5 (by omega)).trans ug
  simp only [t_106_27, t_106_29, t_106_30, t_106_32, t_106_33, t_106_36, t_106_37, t_106_39, t_106_40, t_106_42, t_106_43, t_106_45, t_106_46, t_106_48, t_106_49, t_106_51, t_106_52, t_106_54, t_106_55, t_106_58, t_106_59, t_106_61, t_106_62, decide_true, decide_false, Bool.not_true, Bool.not_false, Nat.reduceLeDiff, Nat.reduceSub, z0_t, z1_f, z1_t, true_or, or_true,  if_true, if_false, Bool.false_eq_true, aft_v, aft_n, aftN_v, aftN_n, qwV_s, qwV_0, bI_if, bI_ok, bI_ok0, bI_ok1, true_and, rL_20 h, vp_in_nI (show m < 10 by omega) (show 10 < 2 ^ 31 by decide), nI_clamp (show m < 2 ^ 31 by omega), e20, nq1e4, nq10, nq40, na_L l8' hR hX hY, na_X l8' hR hX hY, na_P l8' hR hX hY, pl_Y hX hY]
  rw [is_fa]
  rcases lb_is hN2 hG u2 hJ hm nd with z | ⟨sd', xx, yy, s1, s2, s3, s4, s5, s6, s7, s8, s9, s10, s11⟩
  · have z' : sd = -1 := hsd.symm.trans z
    subst z'
    simp only [t_106_124, t_106_126, if_pos (show (-1 : Int32) < 0 by decide)]
    exact hK _ _ _ _ _ _ _ _ _ hq (by omega) (by omega)
  · have z' : sd = nI sd' := hsd.symm.trans s2
    subst z'
    rw [s3, s4]
    have hat : ∀ (d' : Cc) (K : Po) (k : Nat), Sq d d' → k < L → CL x 84 [.ref (l.1 0 0), .int (nI s), .int (nI (xx + k)), .int (nI yy)] (Wo x l n d') K = K (.inl (some (.int (nI m)))) (Wo x l n (cL d' 0 (lbls n d' s))) := by
      intro d' K k hq' hk
      rw [q84 h (Inv_q hI hq').1 hs' (show xx + k < 40 by omega) (show yy < 40 by omega), Sq_k hq' (k := 12) (by omega), tk_q hN2 (lbls_q (s := s) hN2 (Sq_D (s := s) hq')), s11 k hk]
    have hat0 : ∀ (d' : Cc) (K : Po), Sq d d' → CL x 84 [.ref (l.1 0 0), .int (nI s), .int (nI xx), .int (nI yy)] (Wo x l n d') K = K (.inl (some (.int (nI m)))) (Wo x l n (cL d' 0 (lbls n d' s))) := fun d' K hq' => hat d' K 0 hq' (by omega)
    have hat1 : ∀ (d' : Cc) (K : Po), Sq d d' → CL x 84 [.ref (l.1 0 0), .int (nI s), .int (nI (xx + L - 1)), .int (nI yy)] (Wo x l n d') K = K (.inl (some (.int (nI m)))) (Wo x l n (cL d' 0 (lbls n d' s))) := fun d' K hq' => by
      have := hat d' K (L - 1) hq' (by omega)
      rw [show xx + (L - 1) = xx + L - 1 by omega] at this
      exact this
    have hq1 := Sq_t hq (Sq_cL (c := d1) (f := lbls n d1 s))
    have f1 : (nI sd' < 0) = False := eq_false (nI_pos (by omega))
    have f2 : (nI 4 ≤ nI sd') = False := eq_false (le_f s1 (by decide))
    have f3 : (nI R < nI sc) = False := eq_false (lt_f s5 (by omega))
    have f4 : (nI xx < nI a) = False := eq_false (lt_f s6 (by omega))
    have f5 : (nI r < nI (xx + L - 1)) = False := eq_false (lt_f (show xx + L - 1 ≤ r by omega) (by omega))
    have f6 : (nI yy < nI b) = False := eq_false (lt_f s8 (by omega))
    have f7 : (nI t < nI yy) = False := eq_false (lt_f s9 (by omega))
    have f8 : (nI g - nI 1 < nI xx) ∨ (¬ (nI g - nI 1 < nI xx) ∧ ¬ (nI g - nI 1 < nI (xx + L))) := by
      rw [sb_0 xx, sb_0 (xx + L), sb_lt (show g < 2 ^ 30 by omega) (show 1 < 2 ^ 30 by decide) (show xx < 2 ^ 30 by omega) (show 0 < 2 ^ 30 by decide), sb_lt (show g < 2 ^ 30 by omega) (show 1 < 2 ^ 30 by decide) (show xx + L < 2 ^ 30 by omega) (show 0 < 2 ^ 30 by decide)]
      omega
    have W : ∀ (j : Nat), j < 36 → vp_in (nI j) 36 := fun j hj => vp_in_nI hj (by decide)
    simp only [t_106_124, t_106_126, t_106_129, t_106_131, t_106_132, t_106_135, t_106_136, t_106_138, t_106_139, t_106_141, t_106_142, t_106_143, t_106_145, t_106_146, t_106_147, t_106_148, t_106_151, t_106_153, t_106_154, t_106_156, t_106_157, t_106_158, t_106_159, t_106_160, t_106_161, t_106_164, t_106_166, t_106_168, t_106_169, t_106_170, t_106_171, t_106_172, t_106_174, t_106_175, t_106_176, t_106_177, t_106_178, t_106_179, t_106_182, t_106_184, t_106_185, t_106_187, t_106_188, t_106_189, t_106_190, t_106_191, t_106_192, t_106_195, t_106_197, t_106_198, t_106_200, t_106_201, t_106_202, t_106_203, t_106_204, t_106_205, decide_true, decide_false, Bool.not_true, Bool.not_false, Nat.reduceLeDiff, Nat.reduceSub, z0_t, z1_f, z1_t, true_or, or_true,  if_true, if_false, Bool.false_eq_true, aft_v, aft_n, aftN_v, aftN_n, qwV_s, qwV_0, bI_if, bI_ok, bI_ok0, bI_ok1, true_and, rL_20 h, rL_21 h, pk_mul, nI_add, vp_in_nI (show m < 10 by omega) (show 10 < 2 ^ 31 by decide), nI_clamp (show m < 2 ^ 31 by omega), e20, nq1e5, na_R l8' hR hX hY, W (6 * s) (by omega), W (6 * s + 1) (by omega), W (6 * s + 2) (by omega), W (6 * s + 3) (by omega), W (6 * s + 4) (by omega), nI_clamp (show 6 * s < 2 ^ 31 by omega), nI_clamp (show 6 * s + 1 < 2 ^ 31 by omega), nI_clamp (show 6 * s + 2 < 2 ^ 31 by omega), nI_clamp (show 6 * s + 3 < 2 ^ 31 by omega), nI_clamp (show 6 * s + 4 < 2 ^ 31 by omega), v0, v1, v2, v3, v4, pk_sub (show 1 ≤ xx + L by omega), f1, f2, f3, f4, f5, f6, f7]
    have fin : WP x 106 237 [some (.ref (l.1 0 0)), some (.ref (l.1 20 0)), some (.ref (l.1 21 0)), some (.int (nI s)), some (.int (nI n.2.1)), some (.int (nI 1)), some (.int (nI m)), some (.int (nI sd')), some (.int (nI L)), some (.int (nI X)), some (.int (nI Y)), some (.int (nI xx)), some (.int (nI yy))] [] (Wo x l n d1) (mc - 2) (ms - 12) post := by
      simp only [t_106_237, t_106_238, t_106_241, t_106_242, t_106_244, t_106_246, t_106_249, t_106_250, t_106_251, t_106_253, t_106_255, t_106_258, t_106_260, t_106_263, t_106_264, t_106_265, t_106_267, t_106_269, t_106_270, t_106_271, t_106_272, t_106_274, t_106_277, t_106_279, t_106_282, t_106_283, t_106_286, t_106_287, decide_true, decide_false, Bool.not_true, Bool.not_false, Nat.reduceLeDiff, Nat.reduceSub, z0_t, z1_f, z1_t, true_or, or_true,  if_true, if_false, Bool.false_eq_true, aft_v, aft_n, aftN_v, aftN_n, qwV_s, qwV_0, bI_if, bI_ok, bI_ok0, bI_ok1, true_and, k_0 h, k_1 h, k_2 h, k_4 h, k_5 h, k_7 h, nI_add, pk_sub (show 1 ≤ xx + L by omega), show (3 ≤ mc - 2) = True from eq_true (by omega), show (18 ≤ ms - 12) = True from eq_true (by omega), show (3 ≤ mc - 2 - 3) = True from eq_true (by omega), show (18 ≤ ms - 12 - 18) = True from eq_true (by omega), hat0 _ _ hq, hat1 _ _ hq1]
      exact hK _ _ _ _ _ _ _ _ _ (Sq_t hq1 Sq_cL) (by omega) (by omega)
    rcases f8 with f8 | ⟨f8, f9⟩
    · simp only [t_106_208, t_106_209, t_106_211, t_106_212, t_106_213, t_106_214, t_106_215, t_106_216, t_106_218, t_106_221, t_106_222, t_106_224, t_106_225, t_106_226, t_106_227, t_106_228, t_106_229, t_106_231, t_106_233, t_106_234, decide_true, decide_false, Bool.not_true, Bool.not_false, Nat.reduceLeDiff, Nat.reduceSub, z0_t, z1_f, z1_t, true_or, or_true,  if_true, if_false, Bool.false_eq_true, aft_v, aft_n, aftN_v, aftN_n, qwV_s, qwV_0, bI_if, bI_ok, bI_ok0, bI_ok1, true_and, rL_21 h, pk_mul, nI_add, W (6 * s + 5) (by omega), nI_clamp (show 6 * s + 5 < 2 ^ 31 by omega), v5, if_pos f8]
      exact fin
    · simp only [t_106_208, t_106_209, t_106_211, t_106_212, t_106_213, t_106_214, t_106_215, t_106_216, t_106_218, t_106_221, t_106_222, t_106_224, t_106_225, t_106_226, t_106_227, t_106_228, t_106_229, t_106_231, t_106_233, t_106_234, decide_true, decide_false, Bool.not_true, Bool.not_false, Nat.reduceLeDiff, Nat.reduceSub, z0_t, z1_f, z1_t, true_or, or_true,  if_true, if_false, Bool.false_eq_true, aft_v, aft_n, aftN_v, aftN_n, qwV_s, qwV_0, bI_if, bI_ok, bI_ok0, bI_ok1, true_and, rL_21 h, pk_mul, nI_add, W (6 * s + 5) (by omega), nI_clamp (show 6 * s + 5 < 2 ^ 31 by omega), v5, if_neg f8, if_neg f9]
      exact fin
theorem is_loop (h : Lay x l n) (hs' : s < n.2.2.1) (hp : ∀ d', Sq c d' → post (.inl (some (.int (nI 1)))) (Wo x l n d')) : ∀ (e m mc ms : Nat) (d : Cc) (l7 l8 l9 l10 l11 l12 : Option Value), n.2.1 ≤ m + 2 * e → m < 20 → Sq c d → Inv n d → 8 * e + 3 ≤ mc → 48 * e + 18 ≤ ms →
    WP x 106 8 [some (.ref (l.1 0 0)), some (.ref (l.1 20 0)), some (.ref (l.1 21 0)), some (.int (nI s)), some (.int (nI n.2.1)), some (.int (nI 1)), some (.int (nI m)), l7, l8, l9, l10, l11, l12] [] (Wo x l n d) mc ms post := by
  intro e
  induction e with
  | zero =>
    intro m mc ms d l7 l8 l9 l10 l11 l12 hm hm2 hq hI h1 h2
    obtain ⟨_, ⟨k, k1, k2⟩, _⟩ := hI.2.2.2 s hs'
    obtain ⟨ee, e1, e2⟩ := errC_n (n := n) (c := d) (s := s)
    rw [t_106_8]
    simp only [t_106_10, t_106_12, decide_true, decide_false, Bool.not_true, Bool.not_false, Nat.reduceLeDiff, Nat.reduceSub, z0_t, z1_f, z1_t, true_or, or_true,  if_true, if_false, Bool.false_eq_true, aft_v, aft_n, aftN_v, aftN_n, qwV_s, qwV_0, bI_if, bI_ok, bI_ok0, bI_ok1, true_and, if_pos (le_t (show n.2.1 ≤ m by omega) (show m < 2 ^ 31 by omega))]
    simp only [t_106_295, t_106_297, t_106_300, t_106_301, t_106_302, t_106_305, t_106_308, t_106_309, t_106_310, t_106_313, t_106_316, t_106_319, t_106_320, t_106_321, t_106_324, t_106_327, t_106_328, t_106_331, t_106_332, decide_true, decide_false, Bool.not_true, Bool.not_false, Nat.reduceLeDiff, Nat.reduceSub, z0_t, z1_f, z1_t, true_or, or_true,  if_true, if_false, Bool.false_eq_true, aft_v, aft_n, aftN_v, aftN_n, qwV_s, qwV_0, bI_if, bI_ok, bI_ok0, bI_ok1, true_and, k_0 h, k_1 h, k_2 h, k_4 h, k_5 h, k_7 h, show (1 ≤ mc) = True from eq_true (by omega), show (6 ≤ ms) = True from eq_true (by omega), show (1 ≤ mc - 1) = True from eq_true (by omega), show (6 ≤ ms - 6) = True from eq_true (by omega), show (1 ≤ mc - 1 - 1) = True from eq_true (by omega), show (6 ≤ ms - 6 - 6) = True from eq_true (by omega), q87 h hI.1 hs', q88 h hI.1 hs', k2, e2, if_neg (nI_pos (show k < 2 ^ 31 by omega)), if_neg (lt_f (show k ≤ 1000 by omega) (show 1000 < 2 ^ 31 by decide)), if_neg (nI_pos (show ee < 2 ^ 31 by omega))]
    exact hp _ (Sq_t hq Sq_dr)
  | succ e ih =>
    intro m mc ms d l7 l8 l9 l10 l11 l12 hm hm2 hq hI h1 h2
    by_cases z : n.2.1 ≤ m
    · exact WP_mono (ih m mc ms d l7 l8 l9 l10 l11 l12 (by omega) hm2 hq hI (by omega) (by omega)) (fun _ _ h => h)
    · have hN2 := hI.1.2.1
      rw [t_106_8]
      simp only [t_106_10, t_106_12, t_106_15, t_106_17, decide_true, decide_false, Bool.not_true, Bool.not_false, Nat.reduceLeDiff, Nat.reduceSub, z0_t, z1_f, z1_t, true_or, or_true,  if_true, if_false, Bool.false_eq_true, aft_v, aft_n, aftN_v, aftN_n, qwV_s, qwV_0, bI_if, bI_ok, bI_ok0, bI_ok1, true_and, if_neg (le_f (show m < n.2.1 by omega) (show n.2.1 < 2 ^ 31 by omega))]
      refine is_name h hI hs' (by omega) (by omega) (by omega) (fun d' mc' ms' l7 l8 l9 l10 l11 l12 hq' h1' h2' => ?_)
      rw [t_106_289, t_106_292, nI_add]
      exact ih (m + 2) _ _ _ _ _ _ _ _ _ (by omega) (by omega) (Sq_t hq hq') (Inv_q hI hq') (by omega) (by omega)
/-- isSheet -/
theorem isSheet_w (h : Lay x l n) (hI : Inv n c) (hs' : s < n.2.2.1) (hp : ∀ d', Sq c d' → K (.inl (some (.int (nI 1)))) (Wo x l n d')) : CL x 106 [.ref (l.1 0 0), .ref (l.1 20 0), .ref (l.1 21 0), .int (nI s), .int (nI n.2.1)] (Wo x l n c) K := by
  have hN3 := hI.1.2.2.1
  have hN2 := hI.1.2.1
  rw [CL_106]
  simp only [t_106_0, t_106_1, t_106_3, t_106_4, t_106_5, t_106_6, decide_true, decide_false, Bool.not_true, Bool.not_false, Nat.reduceLeDiff, Nat.reduceSub, z0_t, z1_f, z1_t, true_or, or_true,  if_true, if_false, Bool.false_eq_true, aft_v, aft_n, aftN_v, aftN_n, qwV_s, qwV_0, bI_if, bI_ok, bI_ok0, bI_ok1, true_and, nq2, pk_rem (show s < 2 ^ 31 by omega) (show 0 < 2 by decide) (show 2 < 2 ^ 31 by decide)]
  exact is_loop h hs' hp 5 (s % 2) _ _ c _ _ _ _ _ _ (by omega) (by omega) Sq_r hI (by decide) (by decide)
end
