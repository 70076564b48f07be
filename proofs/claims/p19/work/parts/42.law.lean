/-! the law, from its first row -/
section
variable {x : Cx} {w : Wd} {mc ms : Nat} {post : Po}
theorem Wl_0 : Wl x [] (fun _ => none) := ⟨List.nodup_nil, fun q hq => absurd hq List.not_mem_nil, fun _ _ => rfl, fun q hq => absurd hq List.not_mem_nil⟩
theorem cl36 : (nI 36).toNatClampNeg = 36 := by decide
theorem mt_0 : mtL (c0 9) (c0 10) (c0 11) n0.1 (nI 0) = nI 0 := rfl
/-- THE LAW, in the small machine -/
theorem law_all (hE : xB x ≠ xE x) (hN : xN x ≤ 260) (hp : ∀ w, post (.inl (some (.int (nI 1)))) w) (ha : 60000 ≤ mc) (hb : 400000 ≤ ms) : WP x 107 0 [some (.ref (xB x)), none, none, none, none, none, none, none, none, none, none, none, none, none, none, none, none, none, none, none, none, none, none] [] (fun _ => none) mc ms post := by
  rw [t_107_0]
  refine ⟨by omega, by omega, fun sm f1 => ?_⟩
  have h1 := Wl_new (e := eO 7 [.null, .null, .null, .null, .null]) Wl_0 f1
  rw [t_107_3, t_107_4, dfl_7]
  refine ⟨by omega, by omega, s72 h1 (fun r1 r2 n1 n2 sl pc p1 p2 p3 rd d1 d2 w1 h2 => ?_)⟩
  rw [aftN_n, t_107_7, t_107_8, t_107_10]
  refine ⟨by decide, by decide, by omega, by rw [cl8]; omega, fun a18 g1 => ?_⟩
  rw [cl8]
  have h3 := Wl_new (e := eI x 8 (fun _ => 0)) h2 g1
  rw [t_107_12, t_107_13, t_107_15]
  refine ⟨by decide, by decide, by omega, by rw [cl8]; omega, fun a19 g2 => ?_⟩
  rw [cl8]
  have h4 := Wl_new (e := eI x 8 (fun _ => 0)) h3 g2
  rw [t_107_17, t_107_18, t_107_20]
  refine ⟨by decide, by decide, by omega, by rw [cl10]; omega, fun a20 g3 => ?_⟩
  rw [cl10]
  have h5 := Wl_new (e := eI x 10 (fun _ => 0)) h4 g3
  rw [t_107_22, t_107_24, t_107_26]
  refine ⟨by decide, by decide, by omega, by rw [cl36]; omega, fun a21 g4 => ?_⟩
  rw [cl36]
  have h6 := Wl_new (e := eI x 36 (fun _ => 0)) h5 g4
  obtain ⟨l, hL, hw, e1, e2, e3, e4, e5, e6⟩ := init_W h6
  rw [hw, ← e1, ← e2, ← e3, ← e4, ← e5]
  have k0 : qwK (Wo x l n0 c0 (l.1 0 0)) 7 = True := k_0 hL
  have go : ∀ (T mc ms : Nat) (l13 l14 l15 l16 l17 l18 l19 l20 l21 l22 : Option Value), T ≤ 260 → 200 * T ≤ mc → 1500 * T ≤ ms → WP x 107 87 [some (.ref (xB x)), some (.ref (l.1 0 0)), some (.ref (l.1 18 0)), some (.ref (l.1 19 0)), some (.ref (l.1 20 0)), some (.ref (l.1 21 0)), some (.int (nI 0)), some (.int (nI 0)), some (.int (nI 0)), some (.int (nI 0)), some (.int (nI 1)), none, none, l13, l14, l15, l16, l17, l18, l19, l20, l21, l22] [.int (nI T)] (Wo x l n0 c0) mc ms post := by
    intro T mc ms l13 l14 l15 l16 l17 l18 l19 l20 l21 l22 hT q1 q2
    rw [t_107_87, t_107_89, t_107_90]
    exact law_loop hE (by omega) hp hT T 0 l n0 c0 0 mc ms _ _ _ _ _ _ _ _ _ _ (by omega) (Nat.zero_le _) hL e6 Inv_0 rfl q1 q2
  rw [t_107_28]
  simp only [t_107_30, t_107_31, t_107_33, t_107_34, t_107_36, t_107_37, t_107_39, t_107_40, t_107_42, t_107_43, t_107_44, t_107_47, t_107_50, t_107_51, t_107_54, t_107_55, t_107_57, t_107_58, decide_true, decide_false, Bool.not_true, Bool.not_false, Nat.reduceLeDiff, Nat.reduceSub, z0_t, z1_f, z1_t, true_or, or_true,  if_true, if_false, Bool.false_eq_true, aft_v, aft_n, aftN_v, aftN_n, qwV_s, qwV_0, bI_if, bI_ok, bI_ok0, bI_ok1, true_and, k0, q80 hL Inv_0.1 (show 0 < 4 by decide), mt_0, Wo_B hL, qwA_B hE]
  refine ⟨by omega, by omega, ?_⟩
  by_cases z1 : nI 40 ≤ nI (xN x)
  · simp only [t_107_59, t_107_61, if_pos z1, t_107_70, t_107_71, Wo_B hL, qwA_B hE, t_107_72, t_107_74]
    by_cases z2 : nI 80 ≤ nI (xN x)
    · rw [if_pos z2, t_107_84]
      exact go 260 _ _ _ _ _ _ _ _ _ _ _ _ (Nat.le_refl _) (by omega) (by omega)
    · have h80 : xN x < 80 := by
        by_cases q : xN x < 80
        · exact q
        · exact absurd (le_t (show 80 ≤ xN x by omega) (by omega)) z2
      rw [if_neg z2]
      simp only [t_107_77, t_107_78, t_107_79, Wo_B hL, qwA_B hE, t_107_80, t_107_81, pk_mul]
      exact go (3 * xN x) _ _ _ _ _ _ _ _ _ _ _ _ (by omega) (by omega) (by omega)
  · rw [t_107_59, t_107_61, if_neg z1, t_107_64, t_107_67]
    exact go 140 _ _ _ _ _ _ _ _ _ _ _ _ (by decide) (by omega) (by omega)
end
