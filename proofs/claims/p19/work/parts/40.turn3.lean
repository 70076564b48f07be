section
variable {x : Cx} {l : Ly} {n : Nn} {c : Cc} {mc ms T t y wd hg dr M Q : Nat} {post : Po} {l13 l14 l15 l16 l17 l18 l19 l20 l21 l22 : Option Value}
/-- name -/
theorem case_name (h : Lay x l n) (hD : l.1 0 1 = l.1 9 n.1) (hI : Inv n c) (hdr : dr = szO (c 9) n.1) (hy : y < 2 ^ 28) (hw : wd < 40) (hh : hg < 40) (hT : TlP x post l T t y M Q) (hM : M + 26 ≤ mc) (hQ : Q + 160 ≤ ms) :
    WP x 107 713 [some (.ref (xB x)), some (.ref (l.1 0 0)), some (.ref (l.1 18 0)), some (.ref (l.1 19 0)), some (.ref (l.1 20 0)), some (.ref (l.1 21 0)), some (.int (nI n.1)), some (.int (nI n.2.1)), some (.int (nI n.2.2.1)), some (.int (nI dr)), some (.int (nI 1)), some (.int (nI T)), some (.int (nI t)), l13, some (.int (nI y)), l15, some (.int (nI wd)), some (.int (nI hg)), l18, l19, l20, l21, l22] [] (Wo x l n c) mc ms post := by
  have hN2 := hI.1.2.1
  have h1 : y / 8 % 8 < 8 := Nat.mod_lt _ (by decide)
  have h2 : y / 128 % 4 < 4 := Nat.mod_lt _ (by decide)
  simp only [t_107_713, t_107_714, t_107_716, t_107_717, t_107_718, t_107_720, t_107_721, t_107_722, t_107_724, t_107_726, t_107_728, t_107_729, t_107_730, t_107_731, t_107_733, t_107_734, t_107_735, t_107_737, t_107_739, t_107_741, t_107_743, decide_true, decide_false, Bool.not_true, Bool.not_false, Nat.reduceLeDiff, Nat.reduceSub, z0_t, z1_f, z1_t, true_or, or_true,  if_true, if_false, Bool.false_eq_true, aft_v, aft_n, aftN_v, aftN_n, qwV_s, qwV_0, bI_if, bI_ok, bI_ok0, bI_ok1, true_and, show (26 ≤ mc) = True from eq_true (by omega), show (160 ≤ ms) = True from eq_true (by omega), sh_3 (show y < 2 ^ 31 by omega), sh_7 (show y < 2 ^ 31 by omega), nq8, nq4, rm_k (show y / 8 < 2 ^ 31 by omega) (show 0 < 8 by decide) (show 8 < 2 ^ 31 by decide), rm_k (show y / 128 < 2 ^ 31 by omega) (show 0 < 4 by decide) (show 4 < 2 ^ 31 by decide), nI_add]
  generalize y / 8 % 8 = k at *
  generalize y / 128 % 4 = R at *
  refine on_5 h ?_
  have hok : (inP (nI wd) (nI hg) && (inR (nI 1) (nI (1 + k)) (nI 8) && inR (nI 0) (nI R) (nI 3))) = true := by
    rw [inP_nI hw hh, inR_nI (by omega) (by omega) (by decide), inR_nI (by omega) (by omega) (by decide)]
    rfl
  by_cases ok : n.2.1 < 10
  · refine s76 h hD hI.1 hok ok (fun l' h' hE hD' => ?_)
    rw [KO_v, aftN_v]
    obtain ⟨e1, e2, e3, e4, e5⟩ := id hE
    rw [← e1, ← e2, ← e3, ← e4, ← e5]
    have hX := P_name hI ok (show 1 ≤ 1 + k by omega) (show 1 + k ≤ 8 by omega) (show R ≤ 3 by omega) hw hh
    have g1 : (nI 10 ≤ nI n.2.1) = False := eq_false (le_f ok (by decide))
    have e : nI (100000 * R + 10000 * (1 + k) + 40 * hg + wd) = nI (naV (1 + k) R wd hg) := rfl
    simp only [t_107_746, t_107_748, t_107_750, t_107_753, t_107_755, t_107_758, t_107_760, t_107_763, t_107_764, t_107_767, t_107_768, t_107_770, t_107_772, t_107_774, t_107_777, t_107_779, t_107_781, t_107_783, t_107_785, t_107_786, t_107_789, t_107_791, t_107_792, t_107_793, t_107_795, t_107_797, t_107_798, t_107_799, t_107_801, t_107_802, t_107_803, t_107_806, decide_true, decide_false, Bool.not_true, Bool.not_false, Nat.reduceLeDiff, Nat.reduceSub, z0_t, z1_f, z1_t, true_or, or_true,  if_true, if_false, Bool.false_eq_true, aft_v, aft_n, aftN_v, aftN_n, qwV_s, qwV_0, bI_if, bI_ok, bI_ok0, bI_ok1, true_and, g1, rI_20 h', p_20 h', vp_in_nI ok (show 10 < 2 ^ 31 by decide), nI_clamp (show n.2.1 < 2 ^ 31 by omega), cu_k (show 20 ≠ 12 by decide), pk_mul, nI_add, e]
    exact hT l' _ _ dr _ _ _ _ _ _ _ _ _ _ _ h' hD' hX hE (by
      have e9 : (cu (cu c 12 n.2.1 (nmF (nI (1 + k)) (nI R) (nI wd) (nI hg))) 20 0 (upd (c 20 0) n.2.1 (nI (naV (1 + k) R wd hg)))) 9 = c 9 := by
        funext i
        rw [cu_k (by omega), cu_k (by omega)]
      rw [e9]
      exact hdr) (by omega) (by omega)
  · refine s76f h hI.1 hok (by omega) ?_
    rw [KO_3, aftN_v]
    simp only [t_107_746, t_107_748, t_107_750, t_107_753, t_107_755, t_107_758, t_107_760, t_107_763, t_107_764, t_107_767, t_107_768, t_107_770, t_107_772, t_107_774, t_107_777, t_107_779, t_107_781, t_107_783, t_107_785, t_107_786, t_107_789, t_107_791, t_107_792, t_107_793, t_107_795, t_107_797, t_107_798, t_107_799, t_107_801, t_107_802, t_107_803, t_107_806, decide_true, decide_false, Bool.not_true, Bool.not_false, Nat.reduceLeDiff, Nat.reduceSub, z0_t, z1_f, z1_t, true_or, or_true,  if_true, if_false, Bool.false_eq_true, aft_v, aft_n, aftN_v, aftN_n, qwV_s, qwV_0, bI_if, bI_ok, bI_ok0, bI_ok1, true_and, if_pos (le_t (show 10 ≤ n.2.1 by omega) (show n.2.1 < 2 ^ 31 by omega)), m13_e]
    exact hT l n c dr _ _ _ _ _ _ _ _ _ _ _ h hD hI LyE_r hdr (by omega) (by omega)
theorem na_D {L R X Y X' Y' : Nat} (hL : L ≤ 8) (hR : R ≤ 3) (hX : X < 40) (hY : Y < 40) : nI (naV L R X Y) / nI 10000 * nI 10000 + nI 40 * nI Y' + nI X' = nI (naV L R X' Y') := by
  have hb := na_b hL hR hX hY
  rw [pk_div (by omega) (by decide) (by decide), pk_mul, pk_mul, nI_add, nI_add]
  congr 1
  unfold naV
  omega
theorem shf_3 {c1 d1 d2 : Cc} {m : Nat} {a b u v : Int32} (h1 : Sq (shfC c1 m a b) d1) (h2 : Sq (shfC d1 m u v) d2) : Sq (shfC c1 m a b) (shfC d2 m a b) := by
  intro k i z
  by_cases q : k = 12
  · subst q
    by_cases qi : i = m
    · subst qi
      have e2 : d2 12 i = shfC d1 i u v 12 i := h2 12 i (by omega)
      have e1 : d1 12 i = shfC c1 i a b 12 i := h1 12 i (by omega)
      unfold shfC at e1 e2 ⊢
      rw [cu_s] at e1 e2
      rw [cu_s, cu_s, e2, e1]
      funext j
      by_cases j3 : j = 3
      · subst j3
        rw [upd_s, upd_s]
      · rw [upd_n j3, upd_n j3]
        by_cases j2 : j = 2
        · subst j2
          rw [upd_s, upd_s]
        · rw [upd_n j2, upd_n j2, upd_n j3, upd_n j2, upd_n j3, upd_n j2]
    · have e2 : d2 12 i = shfC d1 m u v 12 i := h2 12 i (by omega)
      have e1 : d1 12 i = shfC c1 m a b 12 i := h1 12 i (by omega)
      unfold shfC at e1 e2 ⊢
      rw [cu_i qi] at e1 e2
      rw [cu_i qi, cu_i qi, e2, e1]
  · have e2 := h2 k i z
    have e1 := h1 k i z
    unfold shfC at e1 e2 ⊢
    rw [cu_k q] at e1 e2
    rw [cu_k q, cu_k q, e2, e1]
theorem shf_CI {c1 : Cc} {m : Nat} {a b : Int32} (hI : CI n (c1 9) (c1 13)) : CI n (shfC c1 m a b 9) (shfC c1 m a b 13) := CI_i hI (by funext i; exact cu_k (by omega)) (fun s => by
  unfold shfC
  rw [cu_k (by omega)]
  exact ⟨rfl, rfl⟩)
theorem Sq_CI {c1 d : Cc} (hI : CI n (c1 9) (c1 13)) (h : Sq c1 d) : CI n (d 9) (d 13) := by
  rw [Sq_k h (by omega), Sq_k h (by omega)]
  exact hI
/-- shift -/
theorem case_shift (h : Lay x l n) (hD : l.1 0 1 = l.1 9 n.1) (hI : Inv n c) (hdr : dr = szO (c 9) n.1) (hy : y < 2 ^ 28) (hw : wd < 40) (hh : hg < 40) (h0 : 0 < n.2.1) (hT : TlP x post l T t y M Q) (hM : M + 9 ≤ mc) (hQ : Q + 54 ≤ ms) :
    WP x 107 821 [some (.ref (xB x)), some (.ref (l.1 0 0)), some (.ref (l.1 18 0)), some (.ref (l.1 19 0)), some (.ref (l.1 20 0)), some (.ref (l.1 21 0)), some (.int (nI n.1)), some (.int (nI n.2.1)), some (.int (nI n.2.2.1)), some (.int (nI dr)), some (.int (nI 1)), some (.int (nI T)), some (.int (nI t)), l13, some (.int (nI y)), l15, some (.int (nI wd)), some (.int (nI hg)), l18, l19, l20, l21, l22] [] (Wo x l n c) mc ms post := by
  have hN2 := hI.1.2.1
  have hN3 := hI.1.2.2.1
  have hm : y / 8 % n.2.1 < n.2.1 := Nat.mod_lt _ h0
  obtain ⟨L, R, X, Y, nd, ne⟩ := hI.2.2.1 (y / 8 % n.2.1) hm
  obtain ⟨l1, l8', hR, hX, hY, eL, eR, eX, eY⟩ := id nd
  simp only [t_107_821, t_107_823, t_107_824, t_107_825, t_107_827, t_107_828, t_107_830, t_107_832, t_107_834, t_107_835, t_107_838, t_107_839, t_107_841, t_107_843, t_107_845, t_107_847, t_107_849, t_107_850, t_107_853, t_107_854, t_107_857, t_107_858, t_107_860, t_107_862, t_107_863, t_107_864, t_107_866, t_107_867, t_107_868, t_107_869, t_107_871, t_107_873, decide_true, decide_false, Bool.not_true, Bool.not_false, Nat.reduceLeDiff, Nat.reduceSub, z0_t, z1_f, z1_t, true_or, or_true,  if_true, if_false, Bool.false_eq_true, aft_v, aft_n, aftN_v, aftN_n, qwV_s, qwV_0, bI_if, bI_ok, bI_ok0, bI_ok1, true_and, sh_3 (show y < 2 ^ 31 by omega), nqk h0 (show n.2.1 < 2 ^ 31 by omega), rm_k (show y / 8 < 2 ^ 31 by omega) h0 (show n.2.1 < 2 ^ 31 by omega), rL_20 h, rI_20 h, p_20 h, vp_in_nI (show y / 8 % n.2.1 < 10 by omega) (show 10 < 2 ^ 31 by decide), nI_clamp (show y / 8 % n.2.1 < 2 ^ 31 by omega), ne, nq1e4, na_P l8' hR hX hY, na_D l8' hR hX hY]
  have hX1 := P_shift hI hm nd hw hh
  generalize y / 8 % n.2.1 = m at *
  have hC1 : CI n (cu c 20 0 (upd (c 20 0) m (nI (naV L R wd hg))) 9) (cu c 20 0 (upd (c 20 0) m (nI (naV L R wd hg))) 13) := CI_i hI.1 (by funext i; exact cu_k (by omega)) (fun s => by rw [cu_k (by omega)]; exact ⟨rfl, rfl⟩)
  have e9 : shfC (cu c 20 0 (upd (c 20 0) m (nI (naV L R wd hg)))) m (nI wd) (nI hg) 9 = c 9 := by
    funext i
    unfold shfC
    rw [cu_k (by omega), cu_k (by omega)]
  generalize cu c 20 0 (upd (c 20 0) m (nI (naV L R wd hg))) = c1 at *
  have hCX := shf_CI (m := m) (a := nI wd) (b := nI hg) hC1
  have q1 := Sq_swe (n := n) (c := shfC c1 m (nI wd) (nI hg))
  obtain ⟨k1, k2, k3⟩ := cntE_n (n := n) (c := shfC c1 m (nI wd) (nI hg))
  have v1 := sweC_q (n := n) hN2 (Sq_r (c := shfC c1 m (nI wd) (nI hg)))
  simp only [t_107_875, t_107_878, t_107_880, t_107_882, t_107_885, t_107_887, t_107_889, t_107_892, t_107_893, t_107_896, t_107_897, decide_true, decide_false, Bool.not_true, Bool.not_false, Nat.reduceLeDiff, Nat.reduceSub, z0_t, z1_f, z1_t, true_or, or_true,  if_true, if_false, Bool.false_eq_true, aft_v, aft_n, aftN_v, aftN_n, qwV_s, qwV_0, bI_if, bI_ok, bI_ok0, bI_ok1, true_and, k_0 h, k_1 h, k_2 h, k_4 h, k_5 h, k_7 h, q77 h hC1 hm hw hh, show (3 ≤ mc) = True from eq_true (by omega), show (18 ≤ ms) = True from eq_true (by omega), v1, k3, if_neg (nI_pos (show k1 < 2 ^ 31 by omega)), if_neg (lt_f k2 (show n.2.2.1 < 2 ^ 31 by omega))]
  generalize (sweC n (shfC c1 m (nI wd) (nI hg))).1 = d1 at *
  have hCd := Sq_CI hCX q1
  simp only [t_107_899, t_107_901, t_107_903, t_107_904, t_107_905, t_107_906, decide_true, decide_false, Bool.not_true, Bool.not_false, Nat.reduceLeDiff, Nat.reduceSub, z0_t, z1_f, z1_t, true_or, or_true,  if_true, if_false, Bool.false_eq_true, aft_v, aft_n, aftN_v, aftN_n, qwV_s, qwV_0, bI_if, bI_ok, bI_ok0, bI_ok1, true_and, sh_9 (show y < 2 ^ 31 by omega), an_3 (show y / 512 < 2 ^ 31 by omega)]
  by_cases z : nI (y / 512 % 4) = 0
  · rw [if_pos z]
    have plx : nI (40 * Y + X) - nI Y * nI 40 = nI X := by
      have := pl_X hX hY
      rw [pl_Y hX hY] at this
      exact this
    have q2 := Sq_swe (n := n) (c := shfC d1 m (nI X) (nI Y))
    obtain ⟨k4, k5, k6⟩ := cntE_n (n := n) (c := shfC d1 m (nI X) (nI Y))
    have v2 := sweC_q (n := n) hN2 (Sq_r (c := shfC d1 m (nI X) (nI Y)))
    simp only [t_107_909, t_107_910, t_107_912, t_107_914, t_107_916, t_107_917, t_107_919, t_107_921, t_107_922, t_107_925, t_107_927, t_107_929, t_107_932, t_107_934, decide_true, decide_false, Bool.not_true, Bool.not_false, Nat.reduceLeDiff, Nat.reduceSub, z0_t, z1_f, z1_t, true_or, or_true,  if_true, if_false, Bool.false_eq_true, aft_v, aft_n, aftN_v, aftN_n, qwV_s, qwV_0, bI_if, bI_ok, bI_ok0, bI_ok1, true_and, k_0 h, k_1 h, k_2 h, k_4 h, k_5 h, k_7 h, nq40, plx, pl_Y hX hY, q77 h hCd hm hX hY, show (3 ≤ mc - 3) = True from eq_true (by omega), show (18 ≤ ms - 18) = True from eq_true (by omega), v2, k6, if_neg (nI_pos (show k4 < 2 ^ 31 by omega))]
    have hCY := shf_CI (m := m) (a := nI X) (b := nI Y) hCd
    generalize hd2 : (sweC n (shfC d1 m (nI X) (nI Y))).1 = d2 at *
    have hCe := Sq_CI hCY q2
    have q3 := shf_3 q1 q2
    have v3 := sweC_q (n := n) hN2 q3
    have q4 := Sq_t q3 (Sq_swe (n := n) (c := shfC d2 m (nI wd) (nI hg)))
    simp only [t_107_937, t_107_938, t_107_940, t_107_942, t_107_944, t_107_947, t_107_949, t_107_952, t_107_953, t_107_956, t_107_957, t_107_959, decide_true, decide_false, Bool.not_true, Bool.not_false, Nat.reduceLeDiff, Nat.reduceSub, z0_t, z1_f, z1_t, true_or, or_true,  if_true, if_false, Bool.false_eq_true, aft_v, aft_n, aftN_v, aftN_n, qwV_s, qwV_0, bI_if, bI_ok, bI_ok0, bI_ok1, true_and, k_0 h, k_1 h, k_2 h, k_4 h, k_5 h, k_7 h, q77 h hCe hm hw hh, show (3 ≤ mc - 3 - 3) = True from eq_true (by omega), show (18 ≤ ms - 18 - 18) = True from eq_true (by omega), v3, k3]
    exact hT l n _ dr _ _ _ _ _ _ _ _ _ _ _ h hD (Inv_q hX1 q4) LyE_r (by rw [Sq_k q4 (by omega), e9]; exact hdr) (by omega) (by omega)
  · rw [if_neg z, t_107_959]
    exact hT l n _ dr _ _ _ _ _ _ _ _ _ _ _ h hD (Inv_q hX1 q1) LyE_r (by rw [Sq_k q1 (by omega), e9]; exact hdr) (by omega) (by omega)
/-- print -/
theorem case_print (h : Lay x l n) (hD : l.1 0 1 = l.1 9 n.1) (hI : Inv n c) (hdr : dr = szO (c 9) n.1) (hy : y < 2 ^ 28) (h0 : 0 < n.2.2.1) (hT : TlP x post l T t y M Q) (hM : M + 30 ≤ mc) (hQ : Q + 184 ≤ ms) :
    WP x 107 974 [some (.ref (xB x)), some (.ref (l.1 0 0)), some (.ref (l.1 18 0)), some (.ref (l.1 19 0)), some (.ref (l.1 20 0)), some (.ref (l.1 21 0)), some (.int (nI n.1)), some (.int (nI n.2.1)), some (.int (nI n.2.2.1)), some (.int (nI dr)), some (.int (nI 1)), some (.int (nI T)), some (.int (nI t)), l13, some (.int (nI y)), l15, some (.int (nI wd)), some (.int (nI hg)), l18, l19, l20, l21, l22] [] (Wo x l n c) mc ms post := by
  have hN2 := hI.1.2.1
  have hN3 := hI.1.2.2.1
  have hs' : y % n.2.2.1 < n.2.2.1 := Nat.mod_lt _ h0
  have hk' : y / 8 % 100 < 100 := Nat.mod_lt _ (by decide)
  obtain ⟨_, ⟨k0, k1, k2⟩, _⟩ := hI.2.2.2 (y % n.2.2.1) hs'
  obtain ⟨e0, e1, e2⟩ := errC_n (n := n) (c := c) (s := y % n.2.2.1)
  have qd := Sq_dr (n := n) (c := c) (s := y % n.2.2.1)
  simp only [t_107_974, t_107_976, t_107_978, t_107_979, t_107_981, t_107_982, t_107_984, t_107_987, t_107_989, t_107_990, t_107_992, decide_true, decide_false, Bool.not_true, Bool.not_false, Nat.reduceLeDiff, Nat.reduceSub, z0_t, z1_f, z1_t, true_or, or_true,  if_true, if_false, Bool.false_eq_true, aft_v, aft_n, aftN_v, aftN_n, qwV_s, qwV_0, bI_if, bI_ok, bI_ok0, bI_ok1, true_and, k_0 h, k_1 h, k_2 h, k_4 h, k_5 h, k_7 h, nqk h0 (show n.2.2.1 < 2 ^ 31 by omega), rm_k (show y < 2 ^ 31 by omega) h0 (show n.2.2.1 < 2 ^ 31 by omega), q87 h hI.1 hs', q88 h hI.1 hs', k2, e2, show (1 ≤ mc) = True from eq_true (by omega), show (6 ≤ ms) = True from eq_true (by omega), show (1 ≤ mc - 1) = True from eq_true (by omega), show (6 ≤ ms - 6) = True from eq_true (by omega)]
  generalize y % n.2.2.1 = s at *
  generalize hd0 : drw n c s = d0 at *
  have hI0 := Inv_q hI qd
  have hI0k : d0 13 s 8 = nI k0 := by rw [Sq_k qd (by omega)]; exact k2
  have he0 : errC n d0 s = nI e0 := (errC_q hN2 qd).trans e2
  have h9 : dr = szO (d0 9) n.1 := by rw [Sq_k qd (by omega)]; exact hdr
  by_cases z : e0 = 0
  · subst z
    simp only [t_107_995, t_107_998, t_107_999, t_107_1002, t_107_1003, t_107_1005, t_107_1006, t_107_1008, t_107_1009, t_107_1010, t_107_1012, t_107_1013, t_107_1014, t_107_1016, t_107_1017, t_107_1018, t_107_1020, t_107_1022, t_107_1023, t_107_1024, decide_true, decide_false, Bool.not_true, Bool.not_false, Nat.reduceLeDiff, Nat.reduceSub, z0_t, z1_f, z1_t, true_or, or_true,  if_true, if_false, Bool.false_eq_true, aft_v, aft_n, aftN_v, aftN_n, qwV_s, qwV_0, bI_if, bI_ok, bI_ok0, bI_ok1, true_and, if_pos nI_0, sh_3 (show y < 2 ^ 31 by omega), nq100, rm_k (show y / 8 < 2 ^ 31 by omega) (show 0 < 100 by decide) (show 100 < 2 ^ 31 by decide), nI_add, show (26 ≤ mc - 1 - 1) = True from eq_true (by omega), show (160 ≤ ms - 6 - 6) = True from eq_true (by omega)]
    generalize y / 8 % 100 = k at *
    refine on_3 h ?_
    have ec : copC n d0 s (nI (1 + k)) = nI (k0 + (1 + k)) := by
      unfold copC
      rw [he0, if_pos (by decide), hI0k, nI_add]
    rw [q85 h hI0.1 hs' (by omega) (by omega), ec]
    by_cases z2 : k0 + (1 + k) ≤ 1000
    · rw [if_pos (le_t z2 (by decide)), KO_v, aftN_v]
      have hX := P_print hI0 hs' z2
      have x9 : keepC (drw n d0 s) s (nI (k0 + (1 + k))) 9 = d0 9 := by
        funext i
        unfold keepC
        rw [cu_k (by omega), cu_k (by omega), cu_k (by omega), cu_k (by omega), Sq_k (Sq_dr (n := n) (c := d0) (s := s)) (by omega)]
      have x8 : keepC (drw n d0 s) s (nI (k0 + (1 + k))) 13 s 8 = nI (k0 + (1 + k)) := by
        unfold keepC
        rw [cu_s, upd_s]
      have xe := errC_k (n := n) (c := d0) (s := s) (v := nI (k0 + (1 + k))) hN2
      generalize keepC (drw n d0 s) s (nI (k0 + (1 + k))) = X at *
      have qx := Sq_dr (n := n) (c := X) (s := s)
      have x8' : drw n X s 13 s 8 = nI (k0 + (1 + k)) := by rw [Sq_k qx (by omega)]; exact x8
      simp only [t_107_1027, t_107_1029, t_107_1031, t_107_1033, t_107_1036, t_107_1038, t_107_1041, t_107_1043, t_107_1045, t_107_1046, t_107_1049, t_107_1052, t_107_1053, t_107_1055, t_107_1058, t_107_1060, t_107_1063, t_107_1064, t_107_1067, t_107_1068, t_107_1071, t_107_1073, t_107_1075, t_107_1078, t_107_1080, t_107_1082, t_107_1083, t_107_1086, t_107_1088, t_107_1091, t_107_1092, t_107_1094, t_107_1097, t_107_1100, t_107_1101, t_107_1103, t_107_1106, t_107_1108, t_107_1111, t_107_1112, t_107_1115, t_107_1116, t_107_1118, decide_true, decide_false, Bool.not_true, Bool.not_false, Nat.reduceLeDiff, Nat.reduceSub, z0_t, z1_f, z1_t, true_or, or_true,  if_true, if_false, Bool.false_eq_true, aft_v, aft_n, aftN_v, aftN_n, qwV_s, qwV_0, bI_if, bI_ok, bI_ok0, bI_ok1, true_and, k_0 h, k_1 h, k_2 h, k_4 h, k_5 h, k_7 h, nI_add, m13' (show k0 + (1 + k) < 2 ^ 31 by omega), q88 h hX.1 hs', xe, q87 h (Inv_q hX qx).1 hs', x8', show (1 ≤ mc - 1 - 1 - 26) = True from eq_true (by omega), show (6 ≤ ms - 6 - 6 - 160) = True from eq_true (by omega), show (1 ≤ mc - 1 - 1 - 26 - 1) = True from eq_true (by omega), show (6 ≤ ms - 6 - 6 - 160 - 6) = True from eq_true (by omega)]
      exact hT l n _ dr _ _ _ _ _ _ _ _ _ _ _ h hD (Inv_q hX qx) LyE_r (by rw [Sq_k qx (by omega), x9]; exact h9) (by omega) (by omega)
    · rw [if_neg (le_f (show 1000 < k0 + (1 + k) by omega) (show k0 + (1 + k) < 2 ^ 31 by omega)), KO_3, aftN_v]
      have qx := Sq_dr (n := n) (c := d0) (s := s)
      have x8' : drw n d0 s 13 s 8 = nI k0 := by rw [Sq_k qx (by omega)]; exact hI0k
      simp only [t_107_1027, t_107_1029, t_107_1031, t_107_1033, t_107_1036, t_107_1038, t_107_1041, t_107_1043, t_107_1045, t_107_1046, t_107_1049, t_107_1052, t_107_1053, t_107_1055, t_107_1058, t_107_1060, t_107_1063, t_107_1064, t_107_1067, t_107_1068, t_107_1071, t_107_1073, t_107_1075, t_107_1078, t_107_1080, t_107_1082, t_107_1083, t_107_1086, t_107_1088, t_107_1091, t_107_1092, t_107_1094, t_107_1097, t_107_1100, t_107_1101, t_107_1103, t_107_1106, t_107_1108, t_107_1111, t_107_1112, t_107_1115, t_107_1116, t_107_1118, decide_true, decide_false, Bool.not_true, Bool.not_false, Nat.reduceLeDiff, Nat.reduceSub, z0_t, z1_f, z1_t, true_or, or_true,  if_true, if_false, Bool.false_eq_true, aft_v, aft_n, aftN_v, aftN_n, qwV_s, qwV_0, bI_if, bI_ok, bI_ok0, bI_ok1, true_and, k_0 h, k_1 h, k_2 h, k_4 h, k_5 h, k_7 h, nI_add, m13_e, if_neg (le_f (show 1000 < k0 + (1 + k) by omega) (show k0 + (1 + k) < 2 ^ 31 by omega)), q87 h (Inv_q hI0 qx).1 hs', x8', show (1 ≤ mc - 1 - 1 - 26) = True from eq_true (by omega), show (6 ≤ ms - 6 - 6 - 160) = True from eq_true (by omega)]
      exact hT l n _ dr _ _ _ _ _ _ _ _ _ _ _ h hD (Inv_q hI0 qx) LyE_r (by rw [Sq_k qx (by omega)]; exact h9) (by omega) (by omega)
  · have z1 : ¬ nI e0 = 0 := nI_ne0 (by omega) (by omega)
    simp only [t_107_995, t_107_998, t_107_999, t_107_1002, t_107_1003, t_107_1005, t_107_1006, t_107_1008, t_107_1009, t_107_1010, t_107_1012, t_107_1013, t_107_1014, t_107_1016, t_107_1017, t_107_1018, t_107_1020, t_107_1022, t_107_1023, t_107_1024, decide_true, decide_false, Bool.not_true, Bool.not_false, Nat.reduceLeDiff, Nat.reduceSub, z0_t, z1_f, z1_t, true_or, or_true,  if_true, if_false, Bool.false_eq_true, aft_v, aft_n, aftN_v, aftN_n, qwV_s, qwV_0, bI_if, bI_ok, bI_ok0, bI_ok1, true_and, if_neg z1, sh_3 (show y < 2 ^ 31 by omega), nq100, rm_k (show y / 8 < 2 ^ 31 by omega) (show 0 < 100 by decide) (show 100 < 2 ^ 31 by decide), nI_add, show (26 ≤ mc - 1 - 1) = True from eq_true (by omega), show (160 ≤ ms - 6 - 6) = True from eq_true (by omega)]
    generalize y / 8 % 100 = k at *
    refine on_3 h ?_
    have ec : copC n d0 s (nI (1 + k)) = nI (1 + k) := by
      unfold copC
      rw [he0, if_neg (by rw [← nI_0]; exact le_f (show 0 < e0 by omega) (by omega))]
    rw [q85 h hI0.1 hs' (by omega) (by omega), ec, if_pos (le_t (show 1 + k ≤ 1000 by omega) (by decide)), KO_v, aftN_v]
    have hX := P_print hI0 hs' (show 1 + k ≤ 1000 by omega)
    have x9 : keepC (drw n d0 s) s (nI (1 + k)) 9 = d0 9 := by
      funext i
      unfold keepC
      rw [cu_k (by omega), cu_k (by omega), cu_k (by omega), cu_k (by omega), Sq_k (Sq_dr (n := n) (c := d0) (s := s)) (by omega)]
    have x8 : keepC (drw n d0 s) s (nI (1 + k)) 13 s 8 = nI (1 + k) := by
      unfold keepC
      rw [cu_s, upd_s]
    have xe := errC_k (n := n) (c := d0) (s := s) (v := nI (1 + k)) hN2
    generalize keepC (drw n d0 s) s (nI (1 + k)) = X at *
    have qx := Sq_dr (n := n) (c := X) (s := s)
    have x8' : drw n X s 13 s 8 = nI (1 + k) := by rw [Sq_k qx (by omega)]; exact x8
    simp only [t_107_1027, t_107_1029, t_107_1031, t_107_1033, t_107_1036, t_107_1038, t_107_1041, t_107_1043, t_107_1045, t_107_1046, t_107_1049, t_107_1052, t_107_1053, t_107_1055, t_107_1058, t_107_1060, t_107_1063, t_107_1064, t_107_1067, t_107_1068, t_107_1071, t_107_1073, t_107_1075, t_107_1078, t_107_1080, t_107_1082, t_107_1083, t_107_1086, t_107_1088, t_107_1091, t_107_1092, t_107_1094, t_107_1097, t_107_1100, t_107_1101, t_107_1103, t_107_1106, t_107_1108, t_107_1111, t_107_1112, t_107_1115, t_107_1116, t_107_1118, decide_true, decide_false, Bool.not_true, Bool.not_false, Nat.reduceLeDiff, Nat.reduceSub, z0_t, z1_f, z1_t, true_or, or_true,  if_true, if_false, Bool.false_eq_true, aft_v, aft_n, aftN_v, aftN_n, qwV_s, qwV_0, bI_if, bI_ok, bI_ok0, bI_ok1, true_and, k_0 h, k_1 h, k_2 h, k_4 h, k_5 h, k_7 h, nI_add, m13' (show 1 + k < 2 ^ 31 by omega), q88 h hX.1 hs', xe, q87 h (Inv_q hX qx).1 hs', x8', show (1 ≤ mc - 1 - 1 - 26) = True from eq_true (by omega), show (6 ≤ ms - 6 - 6 - 160) = True from eq_true (by omega), show (1 ≤ mc - 1 - 1 - 26 - 1) = True from eq_true (by omega), show (6 ≤ ms - 6 - 6 - 160 - 6) = True from eq_true (by omega)]
    exact hT l n _ dr _ _ _ _ _ _ _ _ _ _ _ h hD (Inv_q hX qx) LyE_r (by rw [Sq_k qx (by omega), x9]; exact h9) (by omega) (by omega)
/-- sell -/
theorem case_sell (h : Lay x l n) (hD : l.1 0 1 = l.1 9 n.1) (hI : Inv n c) (hdr : dr = szO (c 9) n.1) (hy : y < 2 ^ 28) (h0 : 0 < n.2.2.1) (hT : TlP x post l T t y M Q) (hM : M + 30 ≤ mc) (hQ : Q + 184 ≤ ms) :
    WP x 107 1126 [some (.ref (xB x)), some (.ref (l.1 0 0)), some (.ref (l.1 18 0)), some (.ref (l.1 19 0)), some (.ref (l.1 20 0)), some (.ref (l.1 21 0)), some (.int (nI n.1)), some (.int (nI n.2.1)), some (.int (nI n.2.2.1)), some (.int (nI dr)), some (.int (nI 1)), some (.int (nI T)), some (.int (nI t)), l13, some (.int (nI y)), l15, some (.int (nI wd)), some (.int (nI hg)), l18, l19, l20, l21, l22] [] (Wo x l n c) mc ms post := by
  have hN2 := hI.1.2.1
  have hN3 := hI.1.2.2.1
  have hs' : y % n.2.2.1 < n.2.2.1 := Nat.mod_lt _ h0
  have hk' : y / 8 % 60 < 60 := Nat.mod_lt _ (by decide)
  obtain ⟨_, ⟨k0, k1, k2⟩, _⟩ := hI.2.2.2 (y % n.2.2.1) hs'
  simp only [t_107_1126, t_107_1128, t_107_1130, t_107_1131, t_107_1133, t_107_1134, t_107_1136, t_107_1139, t_107_1141, t_107_1142, t_107_1144, t_107_1145, t_107_1146, t_107_1148, t_107_1149, t_107_1150, t_107_1152, t_107_1153, t_107_1154, t_107_1156, t_107_1158, t_107_1159, t_107_1160, decide_true, decide_false, Bool.not_true, Bool.not_false, Nat.reduceLeDiff, Nat.reduceSub, z0_t, z1_f, z1_t, true_or, or_true,  if_true, if_false, Bool.false_eq_true, aft_v, aft_n, aftN_v, aftN_n, qwV_s, qwV_0, bI_if, bI_ok, bI_ok0, bI_ok1, true_and, k_0 h, k_1 h, k_2 h, k_4 h, k_5 h, k_7 h, nqk h0 (show n.2.2.1 < 2 ^ 31 by omega), rm_k (show y < 2 ^ 31 by omega) h0 (show n.2.2.1 < 2 ^ 31 by omega), q87 h hI.1 hs', k2, show (1 ≤ mc) = True from eq_true (by omega), show (6 ≤ ms) = True from eq_true (by omega), sh_3 (show y < 2 ^ 31 by omega), nq60, rm_k (show y / 8 < 2 ^ 31 by omega) (show 0 < 60 by decide) (show 60 < 2 ^ 31 by decide), nI_add, show (26 ≤ mc - 1) = True from eq_true (by omega), show (160 ≤ ms - 6) = True from eq_true (by omega)]
  generalize y % n.2.2.1 = s at *
  generalize y / 8 % 60 = k at *
  refine on_4 h ?_
  rw [q86 h hI.1 hs' (by omega) (by omega), k2]
  by_cases z : k0 < 1 + k
  · rw [if_pos (lt_t z (by omega)), KO_3, aftN_v]
    simp only [t_107_1163, t_107_1165, t_107_1167, t_107_1169, t_107_1172, t_107_1174, t_107_1176, t_107_1179, t_107_1180, t_107_1182, t_107_1185, t_107_1187, t_107_1190, t_107_1191, t_107_1194, t_107_1195, t_107_1198, t_107_1200, t_107_1201, t_107_1203, t_107_1206, t_107_1209, t_107_1210, t_107_1212, t_107_1215, t_107_1217, t_107_1219, t_107_1220, t_107_1223, t_107_1224, t_107_1227, t_107_1228, decide_true, decide_false, Bool.not_true, Bool.not_false, Nat.reduceLeDiff, Nat.reduceSub, z0_t, z1_f, z1_t, true_or, or_true,  if_true, if_false, Bool.false_eq_true, aft_v, aft_n, aftN_v, aftN_n, qwV_s, qwV_0, bI_if, bI_ok, bI_ok0, bI_ok1, true_and, k_0 h, k_1 h, k_2 h, k_4 h, k_5 h, k_7 h, if_neg (le_f z (show 1 + k < 2 ^ 31 by omega)), m13_e, q87 h hI.1 hs', k2, show (1 ≤ mc - 1 - 26) = True from eq_true (by omega), show (6 ≤ ms - 6 - 160) = True from eq_true (by omega)]
    exact hT l n c dr _ _ _ _ _ _ _ _ _ _ _ h hD hI LyE_r hdr (by omega) (by omega)
  · have hX := P_sell hI hs' k2 k1 (show 1 + k ≤ k0 by omega)
    have x9 : soldC c s (nI (1 + k)) 9 = c 9 := by
      funext i
      unfold soldC
      rw [cu_k (by omega)]
    have x8 : soldC c s (nI (1 + k)) 13 s 8 = nI (k0 - (1 + k)) := by
      unfold soldC
      rw [cu_s, upd_s, k2, pk_sub (by omega)]
    rw [if_neg (lt_f (show 1 + k ≤ k0 by omega) (by omega)), KO_v, aftN_v]
    generalize soldC c s (nI (1 + k)) = X at *
    have q1 := Sq_dr (n := n) (c := X) (s := s)
    have q2 := Sq_t q1 (Sq_dr (n := n) (c := drw n X s) (s := s))
    have e1 := errC_q (s := s) hN2 q1
    have x8' : drw n (drw n X s) s 13 s 8 = nI (k0 - (1 + k)) := by rw [Sq_k q2 (by omega)]; exact x8
    simp only [t_107_1163, t_107_1165, t_107_1167, t_107_1169, t_107_1172, t_107_1174, t_107_1176, t_107_1179, t_107_1180, t_107_1182, t_107_1185, t_107_1187, t_107_1190, t_107_1191, t_107_1194, t_107_1195, t_107_1198, t_107_1200, t_107_1201, t_107_1203, t_107_1206, t_107_1209, t_107_1210, t_107_1212, t_107_1215, t_107_1217, t_107_1219, t_107_1220, t_107_1223, t_107_1224, t_107_1227, t_107_1228, decide_true, decide_false, Bool.not_true, Bool.not_false, Nat.reduceLeDiff, Nat.reduceSub, z0_t, z1_f, z1_t, true_or, or_true,  if_true, if_false, Bool.false_eq_true, aft_v, aft_n, aftN_v, aftN_n, qwV_s, qwV_0, bI_if, bI_ok, bI_ok0, bI_ok1, true_and, k_0 h, k_1 h, k_2 h, k_4 h, k_5 h, k_7 h, if_pos (le_t (show 1 + k ≤ k0 by omega) (show k0 < 2 ^ 31 by omega)), q88 h (Inv_q hX q1).1 hs', e1, q87 h (Inv_q hX q2).1 hs', x8', pk_sub (show 1 + k ≤ k0 by omega), show (1 ≤ mc - 1 - 26) = True from eq_true (by omega), show (6 ≤ ms - 6 - 160) = True from eq_true (by omega), show (1 ≤ mc - 1 - 26 - 1) = True from eq_true (by omega), show (6 ≤ ms - 6 - 160 - 6) = True from eq_true (by omega)]
    exact hT l n _ dr _ _ _ _ _ _ _ _ _ _ _ h hD (Inv_q hX q2) LyE_r (by rw [Sq_k q2 (by omega), x9]; exact hdr) (by omega) (by omega)
end
