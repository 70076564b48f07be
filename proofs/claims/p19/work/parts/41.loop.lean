/-- what is at a turn's head -/
def HdP (x : Cx) (post : Po) (l : Ly) (T t mc0 ms0 : Nat) : Prop := ∀ (l' : Ly) (n' : Nn) (c' : Cc) (dr mc ms : Nat) (l13 l14 l15 l16 l17 l18 l19 l20 l21 l22 : Option Value), Lay x l' n' → l'.1 0 1 = l'.1 9 n'.1 → Inv n' c' → LyE l l' → dr = szO (c' 9) n'.1 → mc0 ≤ mc → ms0 ≤ ms → WP x 107 92 [some (.ref (xB x)), some (.ref (l'.1 0 0)), some (.ref (l'.1 18 0)), some (.ref (l'.1 19 0)), some (.ref (l'.1 20 0)), some (.ref (l'.1 21 0)), some (.int (nI n'.1)), some (.int (nI n'.2.1)), some (.int (nI n'.2.2.1)), some (.int (nI dr)), some (.int (nI 1)), some (.int (nI T)), some (.int (nI t)), l13, l14, l15, l16, l17, l18, l19, l20, l21, l22] [] (Wo x l' n' c') mc ms post
theorem qwA_B {x : Cx} {K : Nat → Prop} (h : xB x ≠ xE x) : qwA x none (xB x) K = K (xN x) := (if_neg h).trans (and_t rfl)
section
variable {x : Cx} {l : Ly} {n : Nn} {c : Cc} {mc ms T t y wd hg dr M Q d : Nat} {post : Po} {l13 l14 l15 l16 l17 l18 l19 l20 l21 l22 : Option Value}
/-- behind a turn's deed: a road and a sheet are asked -/
theorem tail_of (hy : y < 2 ^ 28) (ht : t < 1000) (hH : HdP x post l T (t + 1) M Q) : TlP x post l T t y (M + 61) (Q + 366) := by
  intro l' n' c' dr mc ms l13 l15 l16 l17 l18 l19 l20 l21 l22 h hD hI hE hdr hm hq
  have hN := hI.1.1
  have hN2 := hI.1.2.1
  have hN3 := hI.1.2.2.1
  have key : ∀ mc ms : Nat, M + 43 ≤ mc → Q + 258 ≤ ms → WP x 107 1266 [some (.ref (xB x)), some (.ref (l'.1 0 0)), some (.ref (l'.1 18 0)), some (.ref (l'.1 19 0)), some (.ref (l'.1 20 0)), some (.ref (l'.1 21 0)), some (.int (nI n'.1)), some (.int (nI n'.2.1)), some (.int (nI n'.2.2.1)), some (.int (nI dr)), some (.int (nI 1)), some (.int (nI T)), some (.int (nI t)), l13, some (.int (nI y)), l15, l16, l17, l18, l19, l20, l21, l22] [] (Wo x l' n' c') mc ms post := by
    intro mc ms hm hq
    have done : ∀ (d' : Cc) (mc ms : Nat), Sq c' d' → M ≤ mc → Q ≤ ms → WP x 107 1296 [some (.ref (xB x)), some (.ref (l'.1 0 0)), some (.ref (l'.1 18 0)), some (.ref (l'.1 19 0)), some (.ref (l'.1 20 0)), some (.ref (l'.1 21 0)), some (.int (nI n'.1)), some (.int (nI n'.2.1)), some (.int (nI n'.2.2.1)), some (.int (nI dr)), some (.int (nI 1)), some (.int (nI T)), some (.int (nI t)), l13, some (.int (nI y)), l15, l16, l17, l18, l19, l20, l21, l22] [] (Wo x l' n' d') mc ms post := by
      intro d' mc ms hqq a1 a2
      simp only [t_107_1296, t_107_1297, t_107_1300, t_107_1301, t_107_1303, t_107_1306, nI_add]
      exact hH l' n' d' dr mc ms _ _ _ _ _ _ _ _ _ _ h hD (Inv_q hI hqq) hE (by rw [Sq_k hqq (by omega)]; exact hdr) a1 a2
    by_cases z : n'.2.2.1 = 0
    · have z' : nI n'.2.2.1 = 0 := by rw [z]; rfl
      simp only [t_107_1266, t_107_1268, if_pos z']
      exact done c' mc ms Sq_r (by omega) (by omega)
    · have z' : ¬ nI n'.2.2.1 = 0 := nI_ne0 (by omega) (by omega)
      simp only [t_107_1266, t_107_1268, if_neg z', t_107_1271, t_107_1273, t_107_1274, nq2, true_and, rm_k (show t < 2 ^ 31 by omega) (show 0 < 2 by decide) (show 2 < 2 ^ 31 by decide), t_107_1275]
      by_cases z2 : nI (t % 2) = 0
      · rw [if_pos z2]
        exact done c' mc ms Sq_r (by omega) (by omega)
      · rw [if_neg z2]
        simp only [t_107_1278, t_107_1279, t_107_1281, t_107_1283, t_107_1285, t_107_1287, t_107_1288, t_107_1290, decide_true, decide_false, Bool.not_true, Bool.not_false, Nat.reduceLeDiff, Nat.reduceSub, z0_t, z1_f, z1_t, true_or, or_true,  if_true, if_false, Bool.false_eq_true, aft_v, aft_n, aftN_v, aftN_n, qwV_s, qwV_0, bI_if, bI_ok, bI_ok0, bI_ok1, true_and, nqk (show 0 < n'.2.2.1 by omega) (show n'.2.2.1 < 2 ^ 31 by omega), rm_k (show y < 2 ^ 31 by omega) (show 0 < n'.2.2.1 by omega) (show n'.2.2.1 < 2 ^ 31 by omega), show (43 ≤ mc) = True from eq_true (by omega), show (258 ≤ ms) = True from eq_true (by omega)]
        refine isSheet_w h hI (Nat.mod_lt _ (by omega)) (fun d' hqq => ?_)
        rw [aft_v]
        simp only [t_107_1293, z1_f, if_false]
        exact done d' _ _ hqq (by omega) (by omega)
  simp only [t_107_1230, t_107_1232, z1_f, if_false, t_107_1235, t_107_1237]
  by_cases z : n'.1 = 0
  · have z' : nI n'.1 = 0 := by rw [z]; rfl
    rw [if_pos z']
    exact key mc ms (by omega) (by omega)
  · have z' : ¬ nI n'.1 = 0 := nI_ne0 (by omega) (by omega)
    have hr : y % n'.1 < n'.1 := Nat.mod_lt _ (by omega)
    have hz := hI.1.2.2.2.2.1 (y % n'.1) (by omega)
    have hz2 := hI.1.2.2.2.2.2.1 (y % n'.1) hr
    obtain ⟨⟨k, k1, k2⟩, k3, k4⟩ := hI.2.1.1 (y % n'.1) hr
    rw [hz.1] at k3
    rw [k2] at k4
    rw [if_neg z']
    simp only [t_107_1240, t_107_1241, t_107_1243, t_107_1245, t_107_1246, t_107_1247, t_107_1249, t_107_1251, t_107_1252, t_107_1253, t_107_1254, t_107_1256, t_107_1258, t_107_1259, t_107_1260, decide_true, decide_false, Bool.not_true, Bool.not_false, Nat.reduceLeDiff, Nat.reduceSub, z0_t, z1_f, z1_t, true_or, or_true,  if_true, if_false, Bool.false_eq_true, aft_v, aft_n, aftN_v, aftN_n, qwV_s, qwV_0, bI_if, bI_ok, bI_ok0, bI_ok1, true_and, nqk (show 0 < n'.1 by omega) (show n'.1 < 2 ^ 31 by omega), rm_k (show y < 2 ^ 31 by omega) (show 0 < n'.1 by omega) (show n'.1 < 2 ^ 31 by omega), rL_18 h, rL_19 h, vp_in_nI (show y % n'.1 < 8 by omega) (show 8 < 2 ^ 31 by decide), nI_clamp (show y % n'.1 < 2 ^ 31 by omega), k3, k4, show (18 ≤ mc) = True from eq_true (by omega), show (108 ≤ ms) = True from eq_true (by omega)]
    refine isRoad_w h hI hr hz.1 hz2 hz.2 k1 k2 ?_
    rw [aft_v]
    simp only [t_107_1263, z1_f, if_false]
    exact key _ _ (by omega) (by omega)
/-- a turn's deed -/
theorem turn_do (h : Lay x l n) (hD : l.1 0 1 = l.1 9 n.1) (hI : Inv n c) (hdr : dr = szO (c 9) n.1) (hy : y < 2 ^ 28) (hw : wd < 40) (hh : hg < 40) (hd : d < 16) (hT : TlP x post l T t y M Q) (hM : M + 60 ≤ mc) (hQ : Q + 300 ≤ ms) :
    WP x 107 201 [some (.ref (xB x)), some (.ref (l.1 0 0)), some (.ref (l.1 18 0)), some (.ref (l.1 19 0)), some (.ref (l.1 20 0)), some (.ref (l.1 21 0)), some (.int (nI n.1)), some (.int (nI n.2.1)), some (.int (nI n.2.2.1)), some (.int (nI dr)), some (.int (nI 1)), some (.int (nI T)), some (.int (nI t)), l13, some (.int (nI y)), some (.int (nI d)), some (.int (nI wd)), some (.int (nI hg)), l18, l19, l20, l21, l22] [] (Wo x l n c) mc ms post := by
  have hN := hI.1.1
  have hN2 := hI.1.2.1
  have hN3 := hI.1.2.2.1
  have cT : ∀ k, k ≤ d → (nI k ≤ nI d) = True := fun k hk => eq_true (le_t hk (by omega))
  have cF : ∀ k, d < k → k < 100 → (nI k ≤ nI d) = False := fun k hk h1 => eq_false (le_f hk (by omega))
  have pT : ∀ k, k = 0 → (nI k ≤ 0) = True := fun k hk => eq_true (by rw [hk]; decide)
  have pF : ∀ k, 0 < k → k < 100 → (nI k ≤ 0) = False := fun k hk h1 => eq_false (by rw [← nI_0]; exact le_f hk (by omega))
  have w1121 : WP x 107 1121 [some (.ref (xB x)), some (.ref (l.1 0 0)), some (.ref (l.1 18 0)), some (.ref (l.1 19 0)), some (.ref (l.1 20 0)), some (.ref (l.1 21 0)), some (.int (nI n.1)), some (.int (nI n.2.1)), some (.int (nI n.2.2.1)), some (.int (nI dr)), some (.int (nI 1)), some (.int (nI T)), some (.int (nI t)), l13, some (.int (nI y)), some (.int (nI d)), some (.int (nI wd)), some (.int (nI hg)), l18, l19, l20, l21, l22] [] (Wo x l n c) mc ms post := by
    by_cases z : n.2.2.1 = 0
    · simp only [t_107_1121, t_107_1123, pT _ z, if_true]
      exact hT l n c dr _ _ _ _ _ _ _ _ _ _ _ h hD hI LyE_r hdr (by omega) (by omega)
    · simp only [t_107_1121, t_107_1123, pF n.2.2.1 (by omega) (by omega), if_false]
      exact case_sell h hD hI hdr hy (by omega) hT (by omega) (by omega)
  have w962 : WP x 107 962 [some (.ref (xB x)), some (.ref (l.1 0 0)), some (.ref (l.1 18 0)), some (.ref (l.1 19 0)), some (.ref (l.1 20 0)), some (.ref (l.1 21 0)), some (.int (nI n.1)), some (.int (nI n.2.1)), some (.int (nI n.2.2.1)), some (.int (nI dr)), some (.int (nI 1)), some (.int (nI T)), some (.int (nI t)), l13, some (.int (nI y)), some (.int (nI d)), some (.int (nI wd)), some (.int (nI hg)), l18, l19, l20, l21, l22] [] (Wo x l n c) mc ms post := by
    by_cases z : 15 ≤ d
    · simp only [t_107_962, t_107_964, t_107_966, cT 15 z, if_true]
      exact w1121
    · simp only [t_107_962, t_107_964, t_107_966, cF 15 (by omega) (by decide), if_false]
      by_cases z2 : n.2.2.1 = 0
      · simp only [t_107_969, t_107_971, pT _ z2, if_true]
        exact w1121
      · simp only [t_107_969, t_107_971, pF n.2.2.1 (by omega) (by omega), if_false]
        exact case_print h hD hI hdr hy (by omega) hT (by omega) (by omega)
  have w809 : WP x 107 809 [some (.ref (xB x)), some (.ref (l.1 0 0)), some (.ref (l.1 18 0)), some (.ref (l.1 19 0)), some (.ref (l.1 20 0)), some (.ref (l.1 21 0)), some (.int (nI n.1)), some (.int (nI n.2.1)), some (.int (nI n.2.2.1)), some (.int (nI dr)), some (.int (nI 1)), some (.int (nI T)), some (.int (nI t)), l13, some (.int (nI y)), some (.int (nI d)), some (.int (nI wd)), some (.int (nI hg)), l18, l19, l20, l21, l22] [] (Wo x l n c) mc ms post := by
    by_cases z : 12 ≤ d
    · simp only [t_107_809, t_107_811, t_107_813, cT 12 z, if_true]
      exact w962
    · simp only [t_107_809, t_107_811, t_107_813, cF 12 (by omega) (by decide), if_false]
      by_cases z2 : n.2.1 = 0
      · simp only [t_107_816, t_107_818, pT _ z2, if_true]
        exact w962
      · simp only [t_107_816, t_107_818, pF n.2.1 (by omega) (by omega), if_false]
        exact case_shift h hD hI hdr hy hw hh (by omega) hT (by omega) (by omega)
  have w706 : WP x 107 706 [some (.ref (xB x)), some (.ref (l.1 0 0)), some (.ref (l.1 18 0)), some (.ref (l.1 19 0)), some (.ref (l.1 20 0)), some (.ref (l.1 21 0)), some (.int (nI n.1)), some (.int (nI n.2.1)), some (.int (nI n.2.2.1)), some (.int (nI dr)), some (.int (nI 1)), some (.int (nI T)), some (.int (nI t)), l13, some (.int (nI y)), some (.int (nI d)), some (.int (nI wd)), some (.int (nI hg)), l18, l19, l20, l21, l22] [] (Wo x l n c) mc ms post := by
    by_cases z : 9 ≤ d
    · simp only [t_107_706, t_107_708, t_107_710, cT 9 z, if_true]
      exact w809
    · simp only [t_107_706, t_107_708, t_107_710, cF 9 (by omega) (by decide), if_false]
      exact case_name h hD hI hdr hy hw hh hT (by omega) (by omega)
  have w489 : WP x 107 489 [some (.ref (xB x)), some (.ref (l.1 0 0)), some (.ref (l.1 18 0)), some (.ref (l.1 19 0)), some (.ref (l.1 20 0)), some (.ref (l.1 21 0)), some (.int (nI n.1)), some (.int (nI n.2.1)), some (.int (nI n.2.2.1)), some (.int (nI dr)), some (.int (nI 1)), some (.int (nI T)), some (.int (nI t)), l13, some (.int (nI y)), some (.int (nI d)), some (.int (nI wd)), some (.int (nI hg)), l18, l19, l20, l21, l22] [] (Wo x l n c) mc ms post := by
    by_cases z : 8 ≤ d
    · simp only [t_107_489, t_107_491, t_107_493, cT 8 z, if_true]
      exact w706
    · simp only [t_107_489, t_107_491, t_107_493, cF 8 (by omega) (by decide), if_false]
      by_cases z2 : 6 ≤ n.2.2.1
      · simp only [t_107_496, t_107_498, t_107_500, if_pos (le_t z2 (show n.2.2.1 < 2 ^ 31 by omega))]
        exact w706
      · simp only [t_107_496, t_107_498, t_107_500, if_neg (le_f (show n.2.2.1 < 6 by omega) (show 6 < 2 ^ 31 by decide))]
        exact case_sheet h hD hI hdr hy (by omega) hT (by omega) (by omega)
  by_cases z3 : 3 ≤ d
  · simp only [t_107_201, t_107_203, t_107_204, cT 3 z3, if_true]
    by_cases z : d = 3
    · subst z
      simp only [t_107_265, t_107_267, t_107_268, if_true]
      exact case_road h hD hI hdr hy hT (by omega) (by omega)
    · have z' : ¬ nI d = nI 3 := fun q => z ((nI_eq (by omega) (by decide)).mp q)
      simp only [t_107_265, t_107_267, t_107_268, if_neg z']
      by_cases z6 : 6 ≤ d
      · simp only [t_107_383, t_107_385, t_107_387, cT 6 z6, if_true]
        exact w489
      · simp only [t_107_383, t_107_385, t_107_387, cF 6 (by omega) (by decide), if_false]
        by_cases z2 : n.1 = 0
        · simp only [t_107_390, t_107_392, pT _ z2, if_true]
          exact w489
        · simp only [t_107_390, t_107_392, pF n.1 (by omega) (by omega), if_false]
          exact case_move h hD hI hdr hy hw hh (by omega) hT (by omega) (by omega)
  · simp only [t_107_201, t_107_203, t_107_204, cF 3 (by omega) (by decide), if_false]
    exact case_draft h hD hI hdr hw hh hT (by omega) (by omega)
/-- what a turn does: its number's part, and its deed -/
theorem turn_x (h : Lay x l n) (hD : l.1 0 1 = l.1 9 n.1) (hI : Inv n c) (hdr : dr = szO (c 9) n.1) (ht : t < 1000) {v : Int32} (hT : ∀ y, y < 2 ^ 28 → TlP x post l T t y M Q) (hM : M + 60 ≤ mc) (hQ : Q + 300 ≤ ms) :
    WP x 107 138 [some (.ref (xB x)), some (.ref (l.1 0 0)), some (.ref (l.1 18 0)), some (.ref (l.1 19 0)), some (.ref (l.1 20 0)), some (.ref (l.1 21 0)), some (.int (nI n.1)), some (.int (nI n.2.1)), some (.int (nI n.2.2.1)), some (.int (nI dr)), some (.int (nI 1)), some (.int (nI T)), some (.int (nI t)), some (.int v), l14, l15, l16, l17, l18, l19, l20, l21, l22] [] (Wo x l n c) mc ms post := by
  obtain ⟨y, hy, e⟩ := pk_andE (v >>> (nI 4 &&& 31)) (m := nI 268435455) 28 (by decide)
  simp only [t_107_138, t_107_140, t_107_141, t_107_142, t_107_144, t_107_145, e]
  have key : ∀ d, d < 16 → WP x 107 183 [some (.ref (xB x)), some (.ref (l.1 0 0)), some (.ref (l.1 18 0)), some (.ref (l.1 19 0)), some (.ref (l.1 20 0)), some (.ref (l.1 21 0)), some (.int (nI n.1)), some (.int (nI n.2.1)), some (.int (nI n.2.2.1)), some (.int (nI dr)), some (.int (nI 1)), some (.int (nI T)), some (.int (nI t)), some (.int v), some (.int (nI y)), l15, l16, l17, l18, l19, l20, l21, l22] [.int (nI d)] (Wo x l n c) mc ms post := by
    intro d hd
    simp only [t_107_182, t_107_183, t_107_185, t_107_187, t_107_189, t_107_190, t_107_192, t_107_194, t_107_195, t_107_196, t_107_198, t_107_199, nq13, nq9, true_and, sh_4 (show y < 2 ^ 31 by omega), rm_k (show y < 2 ^ 31 by omega) (show 0 < 13 by decide) (show 13 < 2 ^ 31 by decide), rm_k (show y / 16 < 2 ^ 31 by omega) (show 0 < 9 by decide) (show 9 < 2 ^ 31 by decide)]
    have h1 : y % 13 < 13 := Nat.mod_lt _ (by decide)
    have h2 : y / 16 % 9 < 9 := Nat.mod_lt _ (by decide)
    exact turn_do h hD hI hdr hy (by omega) (by omega) hd (hT y hy) hM hQ
  obtain ⟨d, hd, e2⟩ := pk_andE v (m := nI 15) 4 (by decide)
  by_cases z : 4 ≤ t
  · simp only [t_107_147, t_107_149, t_107_150, if_pos (le_t z (show t < 2 ^ 31 by omega))]
    by_cases z4 : nI t = nI 4
    · simp only [t_107_157, t_107_159, t_107_160, if_pos z4, t_107_163, t_107_164]
      exact key 3 (by decide)
    · simp only [t_107_157, t_107_159, t_107_160, if_neg z4]
      by_cases z5 : nI t = nI 5
      · simp only [t_107_167, t_107_169, t_107_170, if_pos z5, t_107_173, t_107_175]
        exact key 6 (by decide)
      · simp only [t_107_167, t_107_169, t_107_170, if_neg z5, t_107_178, t_107_180, t_107_182, e2]
        exact key d hd
  · simp only [t_107_147, t_107_149, t_107_150, if_neg (le_f (show t < 4 by omega) (show 4 < 2 ^ 31 by decide)), t_107_153, t_107_154]
    exact key 0 (by decide)
end
section
variable {x : Cx} {post : Po} {T : Nat}
/-- THE LAW'S LOOP -/
theorem law_loop (hE : xB x ≠ xE x) (hX : xN x < 2 ^ 31) (hp : ∀ w, post (.inl (some (.int (nI 1)))) w) (hT : T ≤ 260) : ∀ (k t : Nat) (l : Ly) (n : Nn) (c : Cc) (dr mc ms : Nat) (l13 l14 l15 l16 l17 l18 l19 l20 l21 l22 : Option Value), T ≤ t + k → t ≤ T → Lay x l n → l.1 0 1 = l.1 9 n.1 → Inv n c → dr = szO (c 9) n.1 → 200 * k ≤ mc → 1500 * k ≤ ms →
    WP x 107 92 [some (.ref (xB x)), some (.ref (l.1 0 0)), some (.ref (l.1 18 0)), some (.ref (l.1 19 0)), some (.ref (l.1 20 0)), some (.ref (l.1 21 0)), some (.int (nI n.1)), some (.int (nI n.2.1)), some (.int (nI n.2.2.1)), some (.int (nI dr)), some (.int (nI 1)), some (.int (nI T)), some (.int (nI t)), l13, l14, l15, l16, l17, l18, l19, l20, l21, l22] [] (Wo x l n c) mc ms post := by
  intro k
  have stop : ∀ (t : Nat) (l : Ly) (n : Nn) (c : Cc) (dr mc ms : Nat) (l13 l14 l15 l16 l17 l18 l19 l20 l21 l22 : Option Value), T ≤ t → t < 1000 → WP x 107 92 [some (.ref (xB x)), some (.ref (l.1 0 0)), some (.ref (l.1 18 0)), some (.ref (l.1 19 0)), some (.ref (l.1 20 0)), some (.ref (l.1 21 0)), some (.int (nI n.1)), some (.int (nI n.2.1)), some (.int (nI n.2.2.1)), some (.int (nI dr)), some (.int (nI 1)), some (.int (nI T)), some (.int (nI t)), l13, l14, l15, l16, l17, l18, l19, l20, l21, l22] [] (Wo x l n c) mc ms post := by
    intro t l n c dr mc ms l13 l14 l15 l16 l17 l18 l19 l20 l21 l22 h1 h2
    simp only [t_107_92, t_107_94, t_107_96, if_pos (le_t h1 (show t < 2 ^ 31 by omega)), t_107_1309, t_107_1311]
    exact ⟨Or.inr rfl, hp _⟩
  induction k with
  | zero =>
    intro t l n c dr mc ms l13 l14 l15 l16 l17 l18 l19 l20 l21 l22 h1 h2 h hD hI hdr h3 h4
    exact stop t l n c dr mc ms l13 l14 l15 l16 l17 l18 l19 l20 l21 l22 (by omega) (by omega)
  | succ k ih =>
    intro t l n c dr mc ms l13 l14 l15 l16 l17 l18 l19 l20 l21 l22 h1 h2 h hD hI hdr h3 h4
    by_cases z : T ≤ t
    · exact stop t l n c dr mc ms l13 l14 l15 l16 l17 l18 l19 l20 l21 l22 z (by omega)
    · have hH : HdP x post l T (t + 1) (200 * k) (1500 * k) := by
        intro l' n' c' dr' mc' ms' m13 m14 m15 m16 m17 m18 m19 m20 m21 m22 a1 a2 a3 a4 a5 a6 a7
        exact ih (t + 1) l' n' c' dr' mc' ms' _ _ _ _ _ _ _ _ _ _ (by omega) (by omega) a1 a2 a3 a5 a6 a7
      have hTl : ∀ y, y < 2 ^ 28 → TlP x post l T t y (200 * k + 61) (1500 * k + 366) := fun y hy => tail_of hy (by omega) hH
      simp only [t_107_92, t_107_94, t_107_96, if_neg (le_f (show t < T by omega) (show T < 2 ^ 31 by omega)), t_107_99, t_107_101, z1_f, if_false, t_107_104, t_107_106, t_107_107, Wo_B h, qwA_B hE, t_107_108]
      by_cases z2 : nI (xN x) ≤ nI t
      · rw [if_pos z2]
        simp only [t_107_118, t_107_120, t_107_122, t_107_123, t_107_125, t_107_126, t_107_128, t_107_130, t_107_131, t_107_132, t_107_135, t_107_136]
        exact turn_x h hD hI hdr (by omega) hTl (by omega) (by omega)
      · rw [if_neg z2]
        have hlt : t < xN x := by
          by_cases q : t < xN x
          · exact q
          · exact absurd (le_t (show xN x ≤ t by omega) (by omega)) z2
        simp only [t_107_111, t_107_112, t_107_114, t_107_115, Wo_B h, qwL_b, vp_in_nI hlt hX, true_and]
        rw [t_107_136]
        exact turn_x h hD hI hdr (by omega) hTl (by omega) (by omega)
end
