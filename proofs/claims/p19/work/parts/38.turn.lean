/-! the law's turns -/
theorem m13 {k : Nat} (h : k < 2 ^ 31) : ((-13 : Int32) = nI k) = False := eq_false (fun z => by
  have := nI_pos' h
  rw [← z] at this
  exact absurd this (by decide))
theorem m13' {k : Nat} (h : k < 2 ^ 31) : (nI k = (-13 : Int32)) = False := eq_false (fun z => by
  have := nI_pos' h
  rw [z] at this
  exact absurd this (by decide))
theorem m13_e : ((-13 : Int32) = -13) = True := eq_true rfl
theorem m13_le : ((-13 : Int32) ≤ 0) = True := eq_true (by decide)
theorem m13_lt : ((-13 : Int32) < 0) = True := eq_true (by decide)
theorem sh_2 {y : Nat} (h : y < 2 ^ 31) : nI y >>> (nI 2 &&& 31) = nI (y / 4) := pk_shrN h _ 2 (by decide)
theorem sh_3 {y : Nat} (h : y < 2 ^ 31) : nI y >>> (nI 3 &&& 31) = nI (y / 8) := pk_shrN h _ 3 (by decide)
theorem sh_4 {y : Nat} (h : y < 2 ^ 31) : nI y >>> (nI 4 &&& 31) = nI (y / 16) := pk_shrN h _ 4 (by decide)
theorem sh_5 {y : Nat} (h : y < 2 ^ 31) : nI y >>> (nI 5 &&& 31) = nI (y / 32) := pk_shrN h _ 5 (by decide)
theorem sh_7 {y : Nat} (h : y < 2 ^ 31) : nI y >>> (nI 7 &&& 31) = nI (y / 128) := pk_shrN h _ 7 (by decide)
theorem sh_9 {y : Nat} (h : y < 2 ^ 31) : nI y >>> (nI 9 &&& 31) = nI (y / 512) := pk_shrN h _ 9 (by decide)
theorem sh_11 {y : Nat} (h : y < 2 ^ 31) : nI y >>> (nI 11 &&& 31) = nI (y / 2048) := pk_shrN h _ 11 (by decide)
theorem sh_12 {y : Nat} (h : y < 2 ^ 31) : nI y >>> (nI 12 &&& 31) = nI (y / 4096) := pk_shrN h _ 12 (by decide)
theorem an_1 {y : Nat} (h : y < 2 ^ 31) : nI y &&& nI 1 = nI (y % 2) := pk_andN (by omega) 1 (by decide)
theorem an_3 {y : Nat} (h : y < 2 ^ 31) : nI y &&& nI 3 = nI (y % 4) := pk_andN (by omega) 2 (by decide)
theorem rm_k {a d : Nat} (ha : a < 2 ^ 31) (h0 : 0 < d) (hd : d < 2 ^ 31) : nI a - nI a / nI d * nI d = nI (a % d) := pk_rem ha h0 hd
theorem nq3 : (¬ nI 3 = 0) = True := eq_true (by decide)
theorem nq4 : (¬ nI 4 = 0) = True := eq_true (by decide)
theorem nq7 : (¬ nI 7 = 0) = True := eq_true (by decide)
theorem nq8 : (¬ nI 8 = 0) = True := eq_true (by decide)
theorem nq9 : (¬ nI 9 = 0) = True := eq_true (by decide)
theorem nq12 : (¬ nI 12 = 0) = True := eq_true (by decide)
theorem nq13 : (¬ nI 13 = 0) = True := eq_true (by decide)
theorem nq60 : (¬ nI 60 = 0) = True := eq_true (by decide)
theorem nq100 : (¬ nI 100 = 0) = True := eq_true (by decide)
theorem nqk {d : Nat} (h0 : 0 < d) (hd : d < 2 ^ 31) : (¬ nI d = 0) = True := eq_true (nI_ne0 h0 hd)
/-- what is behind a turn's deed -/
def TlP (x : Cx) (post : Po) (l : Ly) (T t y mc0 ms0 : Nat) : Prop := ∀ (l' : Ly) (n' : Nn) (c' : Cc) (dr mc ms : Nat) (l13 l15 l16 l17 l18 l19 l20 l21 l22 : Option Value), Lay x l' n' → l'.1 0 1 = l'.1 9 n'.1 → Inv n' c' → LyE l l' → dr = szO (c' 9) n'.1 → mc0 ≤ mc → ms0 ≤ ms → WP x 107 1230 [some (.ref (xB x)), some (.ref (l'.1 0 0)), some (.ref (l'.1 18 0)), some (.ref (l'.1 19 0)), some (.ref (l'.1 20 0)), some (.ref (l'.1 21 0)), some (.int (nI n'.1)), some (.int (nI n'.2.1)), some (.int (nI n'.2.2.1)), some (.int (nI dr)), some (.int (nI 1)), some (.int (nI T)), some (.int (nI t)), l13, some (.int (nI y)), l15, l16, l17, l18, l19, l20, l21, l22] [] (Wo x l' n' c') mc ms post
section
variable {x : Cx} {l : Ly} {n : Nn} {c : Cc} {mc ms T t y wd hg dr M Q : Nat} {post : Po} {l13 l14 l15 l16 l17 l18 l19 l20 l21 l22 : Option Value}
theorem LyE_r : LyE l l := ⟨rfl, rfl, rfl, rfl, rfl⟩
theorem rf_ne {v u : Nat} {f : Fn1} (h : v < 40) (h2 : u < 40) (hd : dr = 0) : ¬ plc (nI dr) f (nI dr - nI 1) = plV (nI v) (nI u) := by
  subst hd
  unfold plc plV
  rw [if_pos (by decide), pk_mul, nI_add]
  exact fun z => nI_m1 (by omega) z.symm
/-- draft -/
theorem case_draft (h : Lay x l n) (hD : l.1 0 1 = l.1 9 n.1) (hI : Inv n c) (hdr : dr = szO (c 9) n.1) (hw : wd < 40) (hh : hg < 40) (hT : TlP x post l T t y M Q) (hM : M + 26 ≤ mc) (hQ : Q + 160 ≤ ms) :
    WP x 107 207 [some (.ref (xB x)), some (.ref (l.1 0 0)), some (.ref (l.1 18 0)), some (.ref (l.1 19 0)), some (.ref (l.1 20 0)), some (.ref (l.1 21 0)), some (.int (nI n.1)), some (.int (nI n.2.1)), some (.int (nI n.2.2.1)), some (.int (nI dr)), some (.int (nI 1)), some (.int (nI T)), some (.int (nI t)), l13, some (.int (nI y)), l15, some (.int (nI wd)), some (.int (nI hg)), l18, l19, l20, l21, l22] [] (Wo x l n c) mc ms post := by
  have hN := hI.1.1
  have hz := hI.1.2.2.2.2.1 n.1 (by have := hI.1.2.2.2.1; omega)
  rw [← hdr] at hz
  simp only [t_107_207, t_107_208, t_107_209, t_107_211, t_107_213, t_107_214, t_107_215, decide_true, decide_false, Bool.not_true, Bool.not_false, Nat.reduceLeDiff, Nat.reduceSub, z0_t, z1_f, z1_t, true_or, or_true,  if_true, if_false, Bool.false_eq_true, aft_v, aft_n, aftN_v, aftN_n, qwV_s, qwV_0, bI_if, bI_ok, bI_ok0, bI_ok1, true_and, show (26 ≤ mc) = True from eq_true (by omega), show (160 ≤ ms) = True from eq_true (by omega)]
  refine on_0 h ?_
  rw [q73 h hD hI.1 hw hh, hz.1, ← hdr]
  have no : 0 < dr → KO (aftN (WP x) 107 218 [some (.ref (xB x)), some (.ref (l.1 0 0)), some (.ref (l.1 18 0)), some (.ref (l.1 19 0)), some (.ref (l.1 20 0)), some (.ref (l.1 21 0)), some (.int (nI n.1)), some (.int (nI n.2.1)), some (.int (nI n.2.2.1)), some (.int (nI dr)), some (.int (nI 1)), some (.int (nI T)), some (.int (nI t)), l13, some (.int (nI y)), l15, some (.int (nI wd)), some (.int (nI hg)), l18, l19, l20, l21, l22] [] (mc - 26) (ms - 160) post) (.inr 3) (Wo x l n c) := by
    intro h0
    rw [KO_3, aftN_v]
    simp only [t_107_218, t_107_220, t_107_222, t_107_224, t_107_225, t_107_226, t_107_229, t_107_231, t_107_233, t_107_236, t_107_238, t_107_241, t_107_242, t_107_245, t_107_246, t_107_248, t_107_250, t_107_253, t_107_255, t_107_258, t_107_260, t_107_262, decide_true, decide_false, Bool.not_true, Bool.not_false, Nat.reduceLeDiff, Nat.reduceSub, z0_t, z1_f, z1_t, true_or, or_true,  if_true, if_false, Bool.false_eq_true, aft_v, aft_n, aftN_v, aftN_n, qwV_s, qwV_0, bI_if, bI_ok, bI_ok0, bI_ok1, true_and, nI_add, m13 (show dr + 1 < 2 ^ 31 by omega), m13_e, m13_le, if_neg (show ¬ nI dr ≤ 0 by rw [← nI_0]; exact le_f h0 (by omega))]
    exact hT l n c dr _ _ _ _ _ _ _ _ _ _ _ h hD hI LyE_r hdr (by omega) (by omega)
  split
  · exact no (by omega)
  · next z8 =>
    split
    · next z =>
      refine no ?_
      by_cases z0 : dr = 0
      · exact absurd z (rf_ne hw hh z0)
      · omega
    · rw [KO_v, aftN_v]
      simp only [t_107_218, t_107_220, t_107_222, t_107_224, t_107_225, t_107_226, t_107_229, t_107_231, t_107_233, t_107_236, t_107_238, t_107_241, t_107_242, t_107_245, t_107_246, t_107_248, t_107_250, t_107_253, t_107_255, t_107_258, t_107_260, t_107_262, decide_true, decide_false, Bool.not_true, Bool.not_false, Nat.reduceLeDiff, Nat.reduceSub, z0_t, z1_f, z1_t, true_or, or_true,  if_true, if_false, Bool.false_eq_true, aft_v, aft_n, aftN_v, aftN_n, qwV_s, qwV_0, bI_if, bI_ok, bI_ok0, bI_ok1, true_and, nI_add, if_neg (show ¬ nI (dr + 1) ≤ 0 by rw [← nI_0]; exact le_f (show 0 < dr + 1 by omega) (by omega))]
      refine hT l n _ (dr + 1) _ _ _ _ _ _ _ _ _ _ _ h hD (P_draft hI (by omega) (Pl_p hw hh)) LyE_r ?_ (by omega) (by omega)
      have e9 : drfC n c (plV (nI wd) (nI hg)) 9 n.1 2 = nI (szO (c 9) n.1 + 1) := by
        unfold drfC
        rw [cu_s, upd_s]
      rw [szO_nI e9 (by omega), hdr]
theorem sz_road {k : Nat} {f g : Fn1} (hM : n.2.2.2 = n.1 + 1) : szO ((cu (cu (roadC n c (nI k)) 18 0 f) 19 0 g) 9) (n.1 + 1) = 0 := by
  have e : (cu (cu (roadC n c (nI k)) 18 0 f) 19 0 g) 9 (n.1 + 1) = zNf := by
    rw [cu_k (by omega), cu_k (by omega), ← hM]
    unfold roadC rdC genC
    rw [cu_k (by omega), cu_k (by omega), cu_s]
  unfold szO
  rw [e]
  decide
/-- road -/
theorem case_road (h : Lay x l n) (hD : l.1 0 1 = l.1 9 n.1) (hI : Inv n c) (hdr : dr = szO (c 9) n.1) (hy : y < 2 ^ 28) (hT : TlP x post l T t y M Q) (hM : M + 44 ≤ mc) (hQ : Q + 268 ≤ ms) :
    WP x 107 271 [some (.ref (xB x)), some (.ref (l.1 0 0)), some (.ref (l.1 18 0)), some (.ref (l.1 19 0)), some (.ref (l.1 20 0)), some (.ref (l.1 21 0)), some (.int (nI n.1)), some (.int (nI n.2.1)), some (.int (nI n.2.2.1)), some (.int (nI dr)), some (.int (nI 1)), some (.int (nI T)), some (.int (nI t)), l13, some (.int (nI y)), l15, some (.int (nI wd)), some (.int (nI hg)), l18, l19, l20, l21, l22] [] (Wo x l n c) mc ms post := by
  have hN := hI.1.1
  have hM4 := hI.1.2.2.2.1
  have hz := hI.1.2.2.2.2.1 n.1 (by omega)
  rw [← hdr] at hz
  simp only [t_107_271, t_107_273, t_107_274, t_107_275, t_107_276, t_107_277, t_107_279, t_107_280, t_107_281, t_107_283, t_107_284, t_107_285, t_107_286, decide_true, decide_false, Bool.not_true, Bool.not_false, Nat.reduceLeDiff, Nat.reduceSub, z0_t, z1_f, z1_t, true_or, or_true,  if_true, if_false, Bool.false_eq_true, aft_v, aft_n, aftN_v, aftN_n, qwV_s, qwV_0, bI_if, bI_ok, bI_ok0, bI_ok1, true_and, show (26 ≤ mc) = True from eq_true (by omega), show (160 ≤ ms) = True from eq_true (by omega), sh_3 (show y < 2 ^ 31 by omega), nq4, rm_k (show y / 8 < 2 ^ 31 by omega) (show 0 < 4 by decide) (show 4 < 2 ^ 31 by decide)]
  have hits : y / 8 % 4 < 4 := Nat.mod_lt _ (by decide)
  generalize y / 8 % 4 = its at *
  refine on_1 h ?_
  by_cases ok : 2 ≤ dr ∧ n.1 < 8
  · obtain ⟨ok1, ok2⟩ := ok
    refine s74 h hD hI.1 (inR_nI (Nat.zero_le its) (show its ≤ 3 by omega) (by decide)) (by omega) ok2 (fun l' h' hE hD' => ?_)
    rw [KO_v, aftN_v]
    obtain ⟨e1, e2, e3, e4, e5⟩ := id hE
    rw [← e1, ← e2, ← e3, ← e4, ← e5]
    have a18 : roadC n c (nI its) 18 = c 18 := by
      funext i
      unfold roadC rdC genC
      rw [cu_k (by omega), cu_k (by omega), cu_k (by omega), cw_n (by omega), cu_k (by omega)]
    have a19 : roadC n c (nI its) 19 = c 19 := by
      funext i
      unfold roadC rdC genC
      rw [cu_k (by omega), cu_k (by omega), cu_k (by omega), cw_n (by omega), cu_k (by omega)]
    have g1 : (nI dr ≤ nI 1) = False := eq_false (le_f (by omega) (by omega))
    have g2 : (nI 8 ≤ nI n.1) = False := eq_false (le_f ok2 (by decide))
    have g3 : (nI n.1 < 0) = False := eq_false (nI_pos (by omega))
    have hX := P_road hI ok2 (by omega) (show its ≤ 3 by omega)
    rw [← hdr] at hX
    simp only [t_107_289, t_107_291, t_107_293, t_107_295, t_107_296, t_107_299, t_107_301, t_107_303, t_107_306, t_107_308, t_107_311, t_107_313, t_107_316, t_107_317, t_107_320, t_107_321, t_107_323, t_107_325, t_107_328, t_107_330, t_107_332, t_107_335, t_107_336, t_107_338, t_107_340, t_107_341, t_107_342, t_107_344, t_107_346, t_107_347, t_107_348, t_107_350, t_107_353, t_107_355, t_107_358, t_107_359, t_107_361, t_107_362, t_107_364, t_107_365, t_107_367, decide_true, decide_false, Bool.not_true, Bool.not_false, Nat.reduceLeDiff, Nat.reduceSub, z0_t, z1_f, z1_t, true_or, or_true,  if_true, if_false, Bool.false_eq_true, aft_v, aft_n, aftN_v, aftN_n, qwV_s, qwV_0, bI_if, bI_ok, bI_ok0, bI_ok1, true_and, g1, g2, g3, rI_18 h', rI_19 h', rL_18 h', p_18 h', p_19 h', vp_in_nI ok2 (show 8 < 2 ^ 31 by decide), nI_clamp (show n.1 < 2 ^ 31 by omega), a18, a19, cu_k (show 19 ≠ 18 by decide), cu_k (show 18 ≠ 19 by decide), cu_s, upd_s, nI_add, show (18 ≤ mc - 26) = True from eq_true (by omega), show (108 ≤ ms - 160) = True from eq_true (by omega)]
    have r1 := hX.2.1.1 n.1 (Nat.lt_succ_self n.1)
    have r2 := r1.2.1
    have r3 := r1.2.2
    rw [cu_k (by omega), cu_s, upd_s] at r2
    rw [cu_s, upd_s] at r3
    refine isRoad_w h' hX (Nat.lt_succ_self n.1) r2.symm ok1 hz.2 (show its ≤ 3 by omega) r3.symm ?_
    rw [aft_v]
    simp only [t_107_370, t_107_373, t_107_374, t_107_377, t_107_378, t_107_380, decide_true, decide_false, Bool.not_true, Bool.not_false, Nat.reduceLeDiff, Nat.reduceSub, z0_t, z1_f, z1_t, true_or, or_true,  if_true, if_false, Bool.false_eq_true, aft_v, aft_n, aftN_v, aftN_n, qwV_s, qwV_0, bI_if, bI_ok, bI_ok0, bI_ok1, true_and]
    exact hT l' _ _ 0 _ _ _ _ _ _ _ _ _ _ _ h' hD' hX hE (sz_road hM4).symm (by omega) (by omega)
  · refine s74f h hD hI.1 (inR_nI (Nat.zero_le its) (show its ≤ 3 by omega) (by decide)) (by omega) ?_
    rw [KO_3, aftN_v]
    by_cases z : dr ≤ 1
    · simp only [t_107_289, t_107_291, t_107_293, t_107_295, t_107_296, t_107_299, t_107_301, t_107_303, t_107_306, t_107_308, t_107_311, t_107_313, t_107_316, t_107_317, t_107_320, t_107_321, t_107_323, t_107_325, t_107_328, t_107_330, t_107_332, t_107_335, t_107_336, t_107_338, t_107_340, t_107_341, t_107_342, t_107_344, t_107_346, t_107_347, t_107_348, t_107_350, t_107_353, t_107_355, t_107_358, t_107_359, t_107_361, t_107_362, t_107_364, t_107_365, t_107_367, t_107_370, t_107_373, t_107_374, t_107_377, t_107_378, t_107_380, decide_true, decide_false, Bool.not_true, Bool.not_false, Nat.reduceLeDiff, Nat.reduceSub, z0_t, z1_f, z1_t, true_or, or_true,  if_true, if_false, Bool.false_eq_true, aft_v, aft_n, aftN_v, aftN_n, qwV_s, qwV_0, bI_if, bI_ok, bI_ok0, bI_ok1, true_and, if_pos (le_t z (show 1 < 2 ^ 31 by decide)), m13_e, m13_lt]
      exact hT l n c dr _ _ _ _ _ _ _ _ _ _ _ h hD hI LyE_r hdr (by omega) (by omega)
    · simp only [t_107_289, t_107_291, t_107_293, t_107_295, t_107_296, t_107_299, t_107_301, t_107_303, t_107_306, t_107_308, t_107_311, t_107_313, t_107_316, t_107_317, t_107_320, t_107_321, t_107_323, t_107_325, t_107_328, t_107_330, t_107_332, t_107_335, t_107_336, t_107_338, t_107_340, t_107_341, t_107_342, t_107_344, t_107_346, t_107_347, t_107_348, t_107_350, t_107_353, t_107_355, t_107_358, t_107_359, t_107_361, t_107_362, t_107_364, t_107_365, t_107_367, t_107_370, t_107_373, t_107_374, t_107_377, t_107_378, t_107_380, decide_true, decide_false, Bool.not_true, Bool.not_false, Nat.reduceLeDiff, Nat.reduceSub, z0_t, z1_f, z1_t, true_or, or_true,  if_true, if_false, Bool.false_eq_true, aft_v, aft_n, aftN_v, aftN_n, qwV_s, qwV_0, bI_if, bI_ok, bI_ok0, bI_ok1, true_and, if_neg (le_f (show 1 < dr by omega) (show dr < 2 ^ 31 by omega)), if_pos (le_t (show 8 ≤ n.1 by omega) (show n.1 < 2 ^ 31 by omega)), m13_e, m13_lt]
      exact hT l n c dr _ _ _ _ _ _ _ _ _ _ _ h hD hI LyE_r hdr (by omega) (by omega)
end
