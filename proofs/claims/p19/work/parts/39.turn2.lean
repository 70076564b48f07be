section
variable {x : Cx} {l : Ly} {n : Nn} {c : Cc} {mc ms T t y wd hg dr M Q : Nat} {post : Po} {l13 l14 l15 l16 l17 l18 l19 l20 l21 l22 : Option Value}
/-- the law counts the sheets with errata -/
theorem mv_loop (h : Lay x l n) {c1 : Cc} (hI1 : Inv n c1) : ∀ (e k mc ms : Nat) (a : Int32) (d : Cc), k + e = n.2.2.1 → Sq c1 d → e ≤ mc → 6 * e ≤ ms →
    (∀ (d' : Cc) (mc' ms' : Nat), Sq c1 d' → mc ≤ mc' + e → ms ≤ ms' + 6 * e → WP x 107 465 [some (.ref (xB x)), some (.ref (l.1 0 0)), some (.ref (l.1 18 0)), some (.ref (l.1 19 0)), some (.ref (l.1 20 0)), some (.ref (l.1 21 0)), some (.int (nI n.1)), some (.int (nI n.2.1)), some (.int (nI n.2.2.1)), some (.int (nI dr)), some (.int (nI 1)), some (.int (nI T)), some (.int (nI t)), l13, some (.int (nI y)), l15, some (.int (nI wd)), some (.int (nI hg)), l18, l19, some (.int (cntE n c1 e k a)), some (.int (nI n.2.2.1)), l22] [] (Wo x l n d') mc' ms' post) →
    WP x 107 433 [some (.ref (xB x)), some (.ref (l.1 0 0)), some (.ref (l.1 18 0)), some (.ref (l.1 19 0)), some (.ref (l.1 20 0)), some (.ref (l.1 21 0)), some (.int (nI n.1)), some (.int (nI n.2.1)), some (.int (nI n.2.2.1)), some (.int (nI dr)), some (.int (nI 1)), some (.int (nI T)), some (.int (nI t)), l13, some (.int (nI y)), l15, some (.int (nI wd)), some (.int (nI hg)), l18, l19, some (.int a), some (.int (nI k)), l22] [] (Wo x l n d) mc ms post := by
  intro e
  have hN3 := hI1.1.2.2.1
  have hN2 := hI1.1.2.1
  induction e with
  | zero =>
    intro k mc ms a d hk hq h1 h2 hK
    have hk' : k = n.2.2.1 := by omega
    subst hk'
    rw [t_107_433]
    simp only [t_107_435, t_107_437, decide_true, decide_false, Bool.not_true, Bool.not_false, Nat.reduceLeDiff, Nat.reduceSub, z0_t, z1_f, z1_t, true_or, or_true,  if_true, if_false, Bool.false_eq_true, aft_v, aft_n, aftN_v, aftN_n, qwV_s, qwV_0, bI_if, bI_ok, bI_ok0, bI_ok1, true_and, if_pos (le_t (Nat.le_refl n.2.2.1) (show n.2.2.1 < 2 ^ 31 by omega))]
    exact hK d mc ms hq (by omega) (by omega)
  | succ e ih =>
    intro k mc ms a d hk hq h1 h2 hK
    have hks : k < n.2.2.1 := by omega
    rw [t_107_433]
    simp only [t_107_435, t_107_437, t_107_440, t_107_442, t_107_443, t_107_445, t_107_448, t_107_451, t_107_452, t_107_455, t_107_456, t_107_457, t_107_459, t_107_462, decide_true, decide_false, Bool.not_true, Bool.not_false, Nat.reduceLeDiff, Nat.reduceSub, z0_t, z1_f, z1_t, true_or, or_true,  if_true, if_false, Bool.false_eq_true, aft_v, aft_n, aftN_v, aftN_n, qwV_s, qwV_0, bI_if, bI_ok, bI_ok0, bI_ok1, true_and, k_0 h, k_1 h, k_2 h, k_4 h, k_5 h, k_7 h, if_neg (le_f hks (show n.2.2.1 < 2 ^ 31 by omega)), show (1 ≤ mc) = True from eq_true (by omega), show (6 ≤ ms) = True from eq_true (by omega), q88 h (Inv_q hI1 hq).1 hks, errC_q hN2 hq, nI_add]
    have ih := fun a => ih (k + 1) (mc - 1) (ms - 6) a (drw n d k) (by omega) (Sq_t hq Sq_dr) (by omega) (by omega)
    unfold cntE at hK ih
    simp only [cntI_s] at hK
    by_cases z : errC n c1 k ≤ 0
    · simp only [z, if_true, decide_true, Bool.not_true, Bool.false_eq_true, if_false] at hK ⊢
      rw [nI_0, Int32.add_zero]
      exact ih a (fun d' mc' ms' q1 q2 q3 => hK d' mc' ms' q1 (by omega) (by omega))
    · simp only [z, if_false, decide_false, Bool.not_false, if_true] at hK ⊢
      exact ih (a + nI 1) (fun d' mc' ms' q1 q2 q3 => hK d' mc' ms' q1 (by omega) (by omega))
/-- move -/
theorem case_move (h : Lay x l n) (hD : l.1 0 1 = l.1 9 n.1) (hI : Inv n c) (hdr : dr = szO (c 9) n.1) (hy : y < 2 ^ 28) (hw : wd < 40) (hh : hg < 40) (h0 : 0 < n.1) (hT : TlP x post l T t y M Q) (hM : M + 32 ≤ mc) (hQ : Q + 196 ≤ ms) :
    WP x 107 395 [some (.ref (xB x)), some (.ref (l.1 0 0)), some (.ref (l.1 18 0)), some (.ref (l.1 19 0)), some (.ref (l.1 20 0)), some (.ref (l.1 21 0)), some (.int (nI n.1)), some (.int (nI n.2.1)), some (.int (nI n.2.2.1)), some (.int (nI dr)), some (.int (nI 1)), some (.int (nI T)), some (.int (nI t)), l13, some (.int (nI y)), l15, some (.int (nI wd)), some (.int (nI hg)), l18, l19, l20, l21, l22] [] (Wo x l n c) mc ms post := by
  have hN := hI.1.1
  have hN2 := hI.1.2.1
  have hN3 := hI.1.2.2.1
  have hM4 := hI.1.2.2.2.1
  have hr : y / 8 % n.1 < n.1 := Nat.mod_lt _ h0
  have hz := hI.1.2.2.2.2.1 (y / 8 % n.1) (by omega)
  have hz2 := hI.1.2.2.2.2.2.1 (y / 8 % n.1) hr
  have hF := (hI.2.1.1 (y / 8 % n.1) hr).2.1
  rw [hz.1] at hF
  simp only [t_107_395, t_107_397, t_107_398, t_107_399, t_107_401, t_107_402, t_107_404, t_107_405, t_107_406, t_107_408, t_107_410, t_107_412, t_107_413, t_107_414, t_107_416, t_107_417, t_107_418, t_107_420, t_107_422, decide_true, decide_false, Bool.not_true, Bool.not_false, Nat.reduceLeDiff, Nat.reduceSub, z0_t, z1_f, z1_t, true_or, or_true,  if_true, if_false, Bool.false_eq_true, aft_v, aft_n, aftN_v, aftN_n, qwV_s, qwV_0, bI_if, bI_ok, bI_ok0, bI_ok1, true_and, show (26 ≤ mc) = True from eq_true (by omega), show (160 ≤ ms) = True from eq_true (by omega), sh_3 (show y < 2 ^ 31 by omega), sh_7 (show y < 2 ^ 31 by omega), nqk h0 (show n.1 < 2 ^ 31 by omega), rm_k (show y / 8 < 2 ^ 31 by omega) h0 (show n.1 < 2 ^ 31 by omega), rL_18 h, vp_in_nI (show y / 8 % n.1 < 8 by omega) (show 8 < 2 ^ 31 by decide), nI_clamp (show y / 8 % n.1 < 2 ^ 31 by omega), hF, nqk (show 0 < szO (c 9) (y / 8 % n.1) by omega) (show szO (c 9) (y / 8 % n.1) < 2 ^ 31 by omega), rm_k (show y / 128 < 2 ^ 31 by omega) (show 0 < szO (c 9) (y / 8 % n.1) by omega) (show szO (c 9) (y / 8 % n.1) < 2 ^ 31 by omega)]
  have hp : y / 128 % szO (c 9) (y / 8 % n.1) < szO (c 9) (y / 8 % n.1) := Nat.mod_lt _ (by omega)
  generalize y / 128 % szO (c 9) (y / 8 % n.1) = pt at *
  generalize y / 8 % n.1 = r at *
  refine on_2 h ?_
  rw [q75 h hI.1 hr hp hw hh]
  split
  · rw [KO_3, aftN_v]
    simp only [t_107_425, t_107_427, t_107_428, t_107_430, t_107_431, decide_true, decide_false, Bool.not_true, Bool.not_false, Nat.reduceLeDiff, Nat.reduceSub, z0_t, z1_f, z1_t, true_or, or_true,  if_true, if_false, Bool.false_eq_true, aft_v, aft_n, aftN_v, aftN_n, qwV_s, qwV_0, bI_if, bI_ok, bI_ok0, bI_ok1, true_and]
    refine mv_loop h hI n.2.2.1 0 _ _ _ c (Nat.zero_add _) Sq_r (by omega) (by omega) (fun d' mc' ms' hq q1 q2 => ?_)
    simp only [t_107_465, t_107_467, t_107_469, t_107_472, t_107_474, t_107_476, t_107_479, t_107_480, t_107_483, t_107_484, t_107_486, decide_true, decide_false, Bool.not_true, Bool.not_false, Nat.reduceLeDiff, Nat.reduceSub, z0_t, z1_f, z1_t, true_or, or_true,  if_true, if_false, Bool.false_eq_true, aft_v, aft_n, aftN_v, aftN_n, qwV_s, qwV_0, bI_if, bI_ok, bI_ok0, bI_ok1, true_and, m13_e]
    exact hT l n d' dr _ _ _ _ _ _ _ _ _ _ _ h hD (Inv_q hI hq) LyE_r (by rw [Sq_k hq (by omega)]; exact hdr) (by omega) (by omega)
  · rw [KO_v, aftN_v]
    have hX := P_move hI (p := pt) hr (Pl_p hw hh)
    have e9 : movC n c r pt (plV (nI wd) (nI hg)) 9 = c 9 := by
      unfold movC genC
      rw [cw_n (by omega)]
      funext i
      exact cu_k (by omega)
    generalize movC n c r pt (plV (nI wd) (nI hg)) = X at *
    obtain ⟨e, e1, e2⟩ := cntE_n (n := n) (c := X)
    rw [sweC_q hN2 (Sq_r (c := X)), e2]
    simp only [t_107_425, t_107_427, t_107_428, t_107_430, t_107_431, decide_true, decide_false, Bool.not_true, Bool.not_false, Nat.reduceLeDiff, Nat.reduceSub, z0_t, z1_f, z1_t, true_or, or_true,  if_true, if_false, Bool.false_eq_true, aft_v, aft_n, aftN_v, aftN_n, qwV_s, qwV_0, bI_if, bI_ok, bI_ok0, bI_ok1, true_and]
    refine mv_loop h hX n.2.2.1 0 _ _ _ _ (Nat.zero_add _) Sq_swe (by omega) (by omega) (fun d' mc' ms' hq q1 q2 => ?_)
    simp only [t_107_465, t_107_467, t_107_469, t_107_472, t_107_474, t_107_476, t_107_479, t_107_480, t_107_483, t_107_484, t_107_486, decide_true, decide_false, Bool.not_true, Bool.not_false, Nat.reduceLeDiff, Nat.reduceSub, z0_t, z1_f, z1_t, true_or, or_true,  if_true, if_false, Bool.false_eq_true, aft_v, aft_n, aftN_v, aftN_n, qwV_s, qwV_0, bI_if, bI_ok, bI_ok0, bI_ok1, true_and, e2, m13' (show e < 2 ^ 31 by omega)]
    exact hT l n d' dr _ _ _ _ _ _ _ _ _ _ _ h hD (Inv_q hX hq) LyE_r (by rw [Sq_k hq (by omega), e9]; exact hdr) (by omega) (by omega)
/-- sheet -/
theorem case_sheet (h : Lay x l n) (hD : l.1 0 1 = l.1 9 n.1) (hI : Inv n c) (hdr : dr = szO (c 9) n.1) (hy : y < 2 ^ 28) (hS6 : n.2.2.1 < 6) (hT : TlP x post l T t y M Q) (hM : M + 20 ≤ mc) (hQ : Q + 200 ≤ ms) :
    WP x 107 503 [some (.ref (xB x)), some (.ref (l.1 0 0)), some (.ref (l.1 18 0)), some (.ref (l.1 19 0)), some (.ref (l.1 20 0)), some (.ref (l.1 21 0)), some (.int (nI n.1)), some (.int (nI n.2.1)), some (.int (nI n.2.2.1)), some (.int (nI dr)), some (.int (nI 1)), some (.int (nI T)), some (.int (nI t)), l13, some (.int (nI y)), l15, some (.int (nI wd)), some (.int (nI hg)), l18, l19, l20, l21, l22] [] (Wo x l n c) mc ms post := by
  have W : ∀ (j : Nat), j < 36 → vp_in (nI j) 36 := fun j hj => vp_in_nI hj (by decide)
  have W0 := W (6 * n.2.2.1) (by omega)
  have W1 := W (6 * n.2.2.1 + 1) (by omega)
  have W2 := W (6 * n.2.2.1 + 2) (by omega)
  have W3 := W (6 * n.2.2.1 + 3) (by omega)
  have W4 := W (6 * n.2.2.1 + 4) (by omega)
  have W5 := W (6 * n.2.2.1 + 5) (by omega)
  have c0 := nI_clamp (show 6 * n.2.2.1 < 2 ^ 31 by omega)
  have c1 := nI_clamp (show 6 * n.2.2.1 + 1 < 2 ^ 31 by omega)
  have c2 := nI_clamp (show 6 * n.2.2.1 + 2 < 2 ^ 31 by omega)
  have c3 := nI_clamp (show 6 * n.2.2.1 + 3 < 2 ^ 31 by omega)
  have c4 := nI_clamp (show 6 * n.2.2.1 + 4 < 2 ^ 31 by omega)
  have c5 := nI_clamp (show 6 * n.2.2.1 + 5 < 2 ^ 31 by omega)
  simp only [t_107_503, t_107_505, t_107_507, t_107_508, t_107_510, t_107_512, t_107_514, t_107_516, t_107_517, t_107_518, t_107_519, t_107_520, t_107_521, t_107_523, t_107_525, t_107_526, t_107_527, t_107_529, t_107_530, t_107_531, t_107_532, t_107_533, t_107_534, t_107_536, t_107_538, t_107_539, t_107_540, t_107_542, t_107_543, t_107_544, t_107_545, t_107_546, decide_true, decide_false, Bool.not_true, Bool.not_false, Nat.reduceLeDiff, Nat.reduceSub, z0_t, z1_f, z1_t, true_or, or_true,  if_true, if_false, Bool.false_eq_true, aft_v, aft_n, aftN_v, aftN_n, qwV_s, qwV_0, bI_if, bI_ok, bI_ok0, bI_ok1, true_and, pk_mul, nI_add, sh_3 (show y < 2 ^ 31 by omega), sh_2 (show y < 2 ^ 31 by omega), sh_5 (show y < 2 ^ 31 by omega), nq4, nq3, rm_k (show y / 8 < 2 ^ 31 by omega) (show 0 < 4 by decide) (show 4 < 2 ^ 31 by decide), rm_k (show y / 4 < 2 ^ 31 by omega) (show 0 < 4 by decide) (show 4 < 2 ^ 31 by decide), rm_k (show y / 32 < 2 ^ 31 by omega) (show 0 < 3 by decide) (show 3 < 2 ^ 31 by decide), rI_21 h, p_21 h, W0, W1, W2, c0, c1, c2, cu_s, cu_cu]
  have hsc : y / 8 % 4 < 4 := Nat.mod_lt _ (by decide)
  have ha : y / 4 % 4 < 4 := Nat.mod_lt _ (by decide)
  have hb : y / 32 % 3 < 3 := Nat.mod_lt _ (by decide)
  have hr : y / 128 % 9 < 9 := Nat.mod_lt _ (by decide)
  have ht : y / 512 % 7 < 7 := Nat.mod_lt _ (by decide)
  have hg' : y / 4096 % 12 < 12 := Nat.mod_lt _ (by decide)
  have s3 : nI (y / 128) - nI (y / 128) / nI 9 * nI 9 = nI (y / 128 % 9) := rm_k (by omega) (by decide) (by decide)
  have s4 : nI (y / 512) - nI (y / 512) / nI 7 * nI 7 = nI (y / 512 % 7) := rm_k (by omega) (by decide) (by decide)
  have s5 : nI (y / 4096) - nI (y / 4096) / nI 12 * nI 12 = nI (y / 4096 % 12) := rm_k (by omega) (by decide) (by decide)
  generalize y / 8 % 4 = sc at *
  generalize y / 4 % 4 = a at *
  generalize y / 32 % 3 = b at *
  generalize hF3 : upd (upd (upd (c 21 0) (6 * n.2.2.1) (nI sc)) (6 * n.2.2.1 + 1) (nI a)) (6 * n.2.2.1 + 2) (nI b) = F3
  have f0 : F3 (6 * n.2.2.1) = nI sc := by rw [← hF3, upd_n (by omega), upd_n (by omega), upd_s]
  have f1 : F3 (6 * n.2.2.1 + 1) = nI a := by rw [← hF3, upd_n (by omega), upd_s]
  have f2 : F3 (6 * n.2.2.1 + 2) = nI b := by rw [← hF3, upd_s]
  have fo : ∀ j, j < 6 * n.2.2.1 → F3 j = c 21 0 j := fun j hj => by rw [← hF3, upd_n (by omega), upd_n (by omega), upd_n (by omega)]
  clear hF3
  simp only [t_107_546, t_107_547, t_107_549, t_107_551, t_107_552, t_107_553, t_107_555, t_107_557, t_107_558, t_107_559, t_107_560, t_107_561, t_107_562, t_107_564, t_107_566, t_107_567, t_107_569, t_107_570, t_107_571, t_107_572, t_107_574, t_107_576, t_107_577, t_107_578, t_107_580, t_107_582, t_107_583, t_107_584, t_107_585, t_107_586, t_107_587, t_107_589, t_107_591, t_107_592, t_107_594, t_107_595, t_107_596, decide_true, decide_false, Bool.not_true, Bool.not_false, Nat.reduceLeDiff, Nat.reduceSub, z0_t, z1_f, z1_t, true_or, or_true,  if_true, if_false, Bool.false_eq_true, aft_v, aft_n, aftN_v, aftN_n, qwV_s, qwV_0, bI_if, bI_ok, bI_ok0, bI_ok1, true_and, pk_mul, nI_add, sh_7 (show y < 2 ^ 31 by omega), sh_9 (show y < 2 ^ 31 by omega), nq9, nq7, s3, s4, rI_21 h, rL_21 h, p_21 h, W1, W2, W3, W4, c1, c2, c3, c4, cu_s, cu_cu, f1, f2, upd_n (show 6 * n.2.2.1 + 2 ≠ 6 * n.2.2.1 + 3 by omega)]
  generalize y / 128 % 9 = r at *
  generalize y / 512 % 7 = t1 at *
  have key : ∀ (g : Nat) (v : Int32), g < 41 → v = nI g - nI 1 → WP x 107 625 [some (.ref (xB x)), some (.ref (l.1 0 0)), some (.ref (l.1 18 0)), some (.ref (l.1 19 0)), some (.ref (l.1 20 0)), some (.ref (l.1 21 0)), some (.int (nI n.1)), some (.int (nI n.2.1)), some (.int (nI n.2.2.1)), some (.int (nI dr)), some (.int (nI 1)), some (.int (nI T)), some (.int (nI t)), l13, some (.int (nI y)), l15, some (.int (nI wd)), some (.int (nI hg)), some (.int (nI (6 * n.2.2.1))), l19, l20, l21, l22] [.int v, .int (nI (6 * n.2.2.1 + 5)), .ref (l.1 21 0)] (Wo x l n (cu c 21 0 (upd (upd F3 (6 * n.2.2.1 + 3) (nI (a + 5 + r))) (6 * n.2.2.1 + 4) (nI (b + 3 + t1))))) mc ms post := by
    intro g v hgg hv
    generalize hF6 : upd (upd (upd F3 (6 * n.2.2.1 + 3) (nI (a + 5 + r))) (6 * n.2.2.1 + 4) (nI (b + 3 + t1))) (6 * n.2.2.1 + 5) v = F6
    have g0 : F6 (6 * n.2.2.1) = nI sc := by rw [← hF6, upd_n (by omega), upd_n (by omega), upd_n (by omega), f0]
    have g1 : F6 (6 * n.2.2.1 + 1) = nI a := by rw [← hF6, upd_n (by omega), upd_n (by omega), upd_n (by omega), f1]
    have g2 : F6 (6 * n.2.2.1 + 2) = nI b := by rw [← hF6, upd_n (by omega), upd_n (by omega), upd_n (by omega), f2]
    have g3 : F6 (6 * n.2.2.1 + 3) = nI (a + 5 + r) := by rw [← hF6, upd_n (by omega), upd_n (by omega), upd_s]
    have g4 : F6 (6 * n.2.2.1 + 4) = nI (b + 3 + t1) := by rw [← hF6, upd_n (by omega), upd_s]
    have g5 : F6 (6 * n.2.2.1 + 5) = v := by rw [← hF6, upd_s]
    have go : ∀ j, j < 6 * n.2.2.1 → F6 j = c 21 0 j := fun j hj => by rw [← hF6, upd_n (by omega), upd_n (by omega), upd_n (by omega), fo j hj]
    simp only [t_107_625, rI_21 h, p_21 h, W5, c5, cu_s, cu_cu, true_and, hF6]
    simp only [t_107_625, t_107_626, t_107_627, t_107_629, t_107_631, t_107_632, t_107_634, t_107_636, t_107_637, t_107_638, t_107_639, t_107_641, t_107_643, t_107_644, t_107_645, t_107_646, t_107_648, t_107_650, t_107_651, t_107_652, t_107_653, t_107_655, t_107_657, t_107_658, t_107_659, t_107_660, t_107_662, t_107_664, t_107_665, t_107_666, t_107_667, decide_true, decide_false, Bool.not_true, Bool.not_false, Nat.reduceLeDiff, Nat.reduceSub, z0_t, z1_f, z1_t, true_or, or_true,  if_true, if_false, Bool.false_eq_true, aft_v, aft_n, aftN_v, aftN_n, qwV_s, qwV_0, bI_if, bI_ok, bI_ok0, bI_ok1, true_and, k_0 h, k_1 h, k_2 h, k_4 h, k_5 h, k_7 h, nI_add, rL_21 h, W0, W1, W2, W3, W4, W5, c0, c1, c2, c3, c4, c5, cu_s, g0, g1, g2, g3, g4, g5, show (13 ≤ mc) = True from eq_true (by omega), show (148 ≤ ms) = True from eq_true (by omega)]
    have hI1 : CI n (cu c 21 0 F6 9) (cu c 21 0 F6 13) := CI_i hI.1 (by funext i; exact cu_k (by omega)) (fun s => by rw [cu_k (by omega)]; exact ⟨rfl, rfl⟩)
    have hv5 : inR (-1) v (nI 39) = true := by
      unfold inR
      rw [hv]
      have q1 : ¬ nI g - nI 1 < -1 := by
        rw [show (-1 : Int32) = nI 0 - nI 1 from by decide, sb_lt (by omega) (by decide) (by decide) (by decide)]
        omega
      have q2 : nI g - nI 1 ≤ nI 39 := by
        refine Int32.not_lt.mp ?_
        rw [sb_0 39, sb_lt (by decide) (by decide) (by omega) (by decide)]
        omega
      rw [decide_eq_false q1, decide_eq_true q2]
      rfl
    refine s82 h hD hI1 (isc_nI (show sc < 4 by omega)) (by
      show (inP (nI a) (nI b) && (inR (nI a) (nI (a + 5 + r)) (nI 39) && (inR (nI b) (nI (b + 3 + t1)) (nI 39) && inR (-1) v (nI 39)))) = true
      rw [inP_nI (by omega) (by omega), inR_nI (by omega) (by omega) (by decide), inR_nI (by omega) (by omega) (by decide), hv5]
      rfl) hS6 (fun l' h' hE hD' => ?_)
    rw [aft_v]
    obtain ⟨e1, e2, e3, e4, e5⟩ := id hE
    rw [← e1, ← e2, ← e3, ← e4, ← e5]
    have hX := P_sheet hI hS6 (show sc ≤ 3 by omega) (show a < 40 by omega) (show b < 40 by omega) (show a + 5 + r < 40 by omega) (show b + 3 + t1 < 40 by omega) hgg hv (F := F6) (fun s hs j hj => go _ (by omega)) (fun j hj => by
      match j, hj with
      | 0, _ => exact g0
      | 1, _ => exact g1
      | 2, _ => exact g2
      | 3, _ => exact g3
      | 4, _ => exact g4
      | 5, _ => exact g5)
    have x8 : shC (cu c 21 0 F6) n.2.2.1 (shF (nI sc) (nI a) (nI b) (nI (a + 5 + r)) (nI (b + 3 + t1)) v) 13 n.2.2.1 8 = nI 0 := by
      unfold shC
      rw [cu_k (by omega), cu_k (by omega), cu_k (by omega), cu_s]
      rfl
    have x7 : shC (cu c 21 0 F6) n.2.2.1 (shF (nI sc) (nI a) (nI b) (nI (a + 5 + r)) (nI (b + 3 + t1)) v) 13 n.2.2.1 7 = nI 0 := by
      unfold shC
      rw [cu_k (by omega), cu_k (by omega), cu_k (by omega), cu_s]
      rfl
    have x9 : shC (cu c 21 0 F6) n.2.2.1 (shF (nI sc) (nI a) (nI b) (nI (a + 5 + r)) (nI (b + 3 + t1)) v) 9 = c 9 := by
      funext i
      unfold shC
      rw [cu_k (by omega), cu_k (by omega), cu_k (by omega), cu_k (by omega), cu_k (by omega)]
    generalize shC (cu c 21 0 F6) n.2.2.1 (shF (nI sc) (nI a) (nI b) (nI (a + 5 + r)) (nI (b + 3 + t1)) v) = X at *
    have err : errC (n.1, n.2.1, n.2.2.1 + 1, n.2.2.2) X n.2.2.1 = nI 0 := by
      unfold errC
      rw [x7, if_neg (by decide)]
    have k0' : qwK (Wo x l' (n.1, n.2.1, n.2.2.1 + 1, n.2.2.2) X (l'.1 0 0)) 7 = True := k_0 h'
    have k0'' : qwK (Wo x l' (n.1, n.2.1, n.2.2.1 + 1, n.2.2.2) (drw (n.1, n.2.1, n.2.2.1 + 1, n.2.2.2) X n.2.2.1) (l'.1 0 0)) 7 = True := k_0 h'
    have q88' := fun K => q88 (K := K) h' hX.1 (Nat.lt_succ_self n.2.2.1)
    have hqd := Sq_dr (n := (n.1, n.2.1, n.2.2.1 + 1, n.2.2.2)) (c := X) (s := n.2.2.1)
    have q87' := fun K => q87 (K := K) h' (Inv_q hX hqd).1 (Nat.lt_succ_self n.2.2.1)
    have e13 : drw (n.1, n.2.1, n.2.2.1 + 1, n.2.2.2) X n.2.2.1 13 n.2.2.1 8 = nI 0 := by rw [Sq_k hqd (by omega), x8]
    rw [e13] at q87'
    simp only [t_107_670, t_107_672, t_107_675, t_107_676, t_107_678, t_107_681, t_107_684, t_107_685, t_107_687, t_107_690, t_107_693, t_107_694, t_107_697, t_107_698, t_107_700, t_107_703, decide_true, decide_false, Bool.not_true, Bool.not_false, Nat.reduceLeDiff, Nat.reduceSub, z0_t, z1_f, z1_t, true_or, or_true,  if_true, if_false, Bool.false_eq_true, aft_v, aft_n, aftN_v, aftN_n, qwV_s, qwV_0, bI_if, bI_ok, bI_ok0, bI_ok1, true_and, k0', k0'', nI_add, q88', err, q87', show (1 ≤ mc - 13) = True from eq_true (by omega), show (6 ≤ ms - 148) = True from eq_true (by omega), show (1 ≤ mc - 13 - 1) = True from eq_true (by omega), show (6 ≤ ms - 148 - 6) = True from eq_true (by omega)]
    exact hT l' _ _ dr _ _ _ _ _ _ _ _ _ _ _ h' hD' (Inv_q hX hqd) hE (by rw [Sq_k hqd (by omega), x9]; exact hdr) (by omega) (by omega)
  simp only [t_107_596, t_107_597, t_107_599, t_107_601, t_107_602, t_107_603, t_107_605, t_107_607, t_107_608, t_107_609, t_107_610, t_107_613, t_107_614, t_107_617, t_107_619, t_107_621, t_107_622, t_107_624, decide_true, decide_false, Bool.not_true, Bool.not_false, Nat.reduceLeDiff, Nat.reduceSub, z0_t, z1_f, z1_t, true_or, or_true,  if_true, if_false, Bool.false_eq_true, aft_v, aft_n, aftN_v, aftN_n, qwV_s, qwV_0, bI_if, bI_ok, bI_ok0, bI_ok1, true_and, nI_add, sh_11 (show y < 2 ^ 31 by omega), sh_12 (show y < 2 ^ 31 by omega), an_1 (show y / 2048 < 2 ^ 31 by omega), nq12, s5]
  by_cases z : nI (y / 2048 % 2) = 0
  · rw [if_pos z]
    exact key 0 (-1) (by omega) (by decide)
  · rw [if_neg z]
    exact key (y / 4096 % 12 + 1) _ (by omega) (by rw [pk_sub (by omega), Nat.add_sub_cancel])
end
