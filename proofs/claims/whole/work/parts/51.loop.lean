/-! the law's loop, and its start -/
theorem lp_lt {N i : Nat} (hN : N < 2 ^ 31) (hi : i < 2 ^ 31) : (nI N - nI 7 < nI i) ↔ N < i + 7 := by
  by_cases h : 7 ≤ N
  · rw [pk_sub h]
    exact (nI_ltI (by omega) hi).trans (by omega)
  · have h0 : ∀ k, k < 7 → nI k - nI 7 < 0 := by decide
    exact ⟨fun _ => by omega, fun _ => Int32.lt_of_lt_of_le (h0 N (by omega)) (nI_pos' hi)⟩
theorem qwA_B {x : Cx} {K : Nat → Prop} (h : xB x ≠ xE x) : qwA x none (xB x) K = K (xN x) := (if_neg h).trans (and_t rfl)
theorem sw_t {x : Cx} {m pc : Nat} {L : Lc} {w : Wd} {mc ms : Nat} {post : Po} {d lo hi : Int} {offs : Array Int} {n a b j ee t : Nat} {v : Int32} {off : Int} (hc : cdAt m pc = some (.tableswitch d lo hi offs, n, a, b, j, ee)) (h1 : ¬ (v.toInt < lo ∨ hi < v.toInt)) (h2 : offs[(v.toInt - lo).toNat]? = some off) (h3 : ((pc : Int) + off).toNat = t) : WP x m pc L [.int v] w mc ms post = WP x m t L [] w mc ms post := by
  rw [WP_go hc]
  show (if v.toInt < lo ∨ hi < v.toInt then WP x m ((pc : Int) + d).toNat L [] w mc ms post else match offs[(v.toInt - lo).toNat]? with
    | some off => WP x m ((pc : Int) + off).toNat L [] w mc ms post
    | none => False) = _
  rw [if_neg h1, h2]
  show WP x m ((pc : Int) + off).toNat L [] w mc ms post = _
  rw [h3]
theorem sw_0 {x : Cx} {L : Lc} {w : Wd} {mc ms : Nat} {post : Po} : WP x 167 40 L [.int (nI 0)] w mc ms post = WP x 167 120 L [] w mc ms post :=
  sw_t (d := 1230) (lo := 0) (hi := 15) (offs := #[80, 148, 204, 296, 388, 468, 536, 604, 660, 716, 834, 902, 982, 1050, 1118, 1174]) (n := 80) (a := 0) (b := 0) (j := 0) (ee := 0) (off := 80) (by decide +kernel) (by decide) (by decide) (by decide)
theorem sw_1 {x : Cx} {L : Lc} {w : Wd} {mc ms : Nat} {post : Po} : WP x 167 40 L [.int (nI 1)] w mc ms post = WP x 167 188 L [] w mc ms post :=
  sw_t (d := 1230) (lo := 0) (hi := 15) (offs := #[80, 148, 204, 296, 388, 468, 536, 604, 660, 716, 834, 902, 982, 1050, 1118, 1174]) (n := 80) (a := 0) (b := 0) (j := 0) (ee := 0) (off := 148) (by decide +kernel) (by decide) (by decide) (by decide)
theorem sw_2 {x : Cx} {L : Lc} {w : Wd} {mc ms : Nat} {post : Po} : WP x 167 40 L [.int (nI 2)] w mc ms post = WP x 167 244 L [] w mc ms post :=
  sw_t (d := 1230) (lo := 0) (hi := 15) (offs := #[80, 148, 204, 296, 388, 468, 536, 604, 660, 716, 834, 902, 982, 1050, 1118, 1174]) (n := 80) (a := 0) (b := 0) (j := 0) (ee := 0) (off := 204) (by decide +kernel) (by decide) (by decide) (by decide)
theorem sw_3 {x : Cx} {L : Lc} {w : Wd} {mc ms : Nat} {post : Po} : WP x 167 40 L [.int (nI 3)] w mc ms post = WP x 167 336 L [] w mc ms post :=
  sw_t (d := 1230) (lo := 0) (hi := 15) (offs := #[80, 148, 204, 296, 388, 468, 536, 604, 660, 716, 834, 902, 982, 1050, 1118, 1174]) (n := 80) (a := 0) (b := 0) (j := 0) (ee := 0) (off := 296) (by decide +kernel) (by decide) (by decide) (by decide)
theorem sw_4 {x : Cx} {L : Lc} {w : Wd} {mc ms : Nat} {post : Po} : WP x 167 40 L [.int (nI 4)] w mc ms post = WP x 167 428 L [] w mc ms post :=
  sw_t (d := 1230) (lo := 0) (hi := 15) (offs := #[80, 148, 204, 296, 388, 468, 536, 604, 660, 716, 834, 902, 982, 1050, 1118, 1174]) (n := 80) (a := 0) (b := 0) (j := 0) (ee := 0) (off := 388) (by decide +kernel) (by decide) (by decide) (by decide)
theorem sw_5 {x : Cx} {L : Lc} {w : Wd} {mc ms : Nat} {post : Po} : WP x 167 40 L [.int (nI 5)] w mc ms post = WP x 167 508 L [] w mc ms post :=
  sw_t (d := 1230) (lo := 0) (hi := 15) (offs := #[80, 148, 204, 296, 388, 468, 536, 604, 660, 716, 834, 902, 982, 1050, 1118, 1174]) (n := 80) (a := 0) (b := 0) (j := 0) (ee := 0) (off := 468) (by decide +kernel) (by decide) (by decide) (by decide)
theorem sw_6 {x : Cx} {L : Lc} {w : Wd} {mc ms : Nat} {post : Po} : WP x 167 40 L [.int (nI 6)] w mc ms post = WP x 167 576 L [] w mc ms post :=
  sw_t (d := 1230) (lo := 0) (hi := 15) (offs := #[80, 148, 204, 296, 388, 468, 536, 604, 660, 716, 834, 902, 982, 1050, 1118, 1174]) (n := 80) (a := 0) (b := 0) (j := 0) (ee := 0) (off := 536) (by decide +kernel) (by decide) (by decide) (by decide)
theorem sw_7 {x : Cx} {L : Lc} {w : Wd} {mc ms : Nat} {post : Po} : WP x 167 40 L [.int (nI 7)] w mc ms post = WP x 167 644 L [] w mc ms post :=
  sw_t (d := 1230) (lo := 0) (hi := 15) (offs := #[80, 148, 204, 296, 388, 468, 536, 604, 660, 716, 834, 902, 982, 1050, 1118, 1174]) (n := 80) (a := 0) (b := 0) (j := 0) (ee := 0) (off := 604) (by decide +kernel) (by decide) (by decide) (by decide)
theorem sw_8 {x : Cx} {L : Lc} {w : Wd} {mc ms : Nat} {post : Po} : WP x 167 40 L [.int (nI 8)] w mc ms post = WP x 167 700 L [] w mc ms post :=
  sw_t (d := 1230) (lo := 0) (hi := 15) (offs := #[80, 148, 204, 296, 388, 468, 536, 604, 660, 716, 834, 902, 982, 1050, 1118, 1174]) (n := 80) (a := 0) (b := 0) (j := 0) (ee := 0) (off := 660) (by decide +kernel) (by decide) (by decide) (by decide)
theorem sw_9 {x : Cx} {L : Lc} {w : Wd} {mc ms : Nat} {post : Po} : WP x 167 40 L [.int (nI 9)] w mc ms post = WP x 167 756 L [] w mc ms post :=
  sw_t (d := 1230) (lo := 0) (hi := 15) (offs := #[80, 148, 204, 296, 388, 468, 536, 604, 660, 716, 834, 902, 982, 1050, 1118, 1174]) (n := 80) (a := 0) (b := 0) (j := 0) (ee := 0) (off := 716) (by decide +kernel) (by decide) (by decide) (by decide)
theorem sw_10 {x : Cx} {L : Lc} {w : Wd} {mc ms : Nat} {post : Po} : WP x 167 40 L [.int (nI 10)] w mc ms post = WP x 167 874 L [] w mc ms post :=
  sw_t (d := 1230) (lo := 0) (hi := 15) (offs := #[80, 148, 204, 296, 388, 468, 536, 604, 660, 716, 834, 902, 982, 1050, 1118, 1174]) (n := 80) (a := 0) (b := 0) (j := 0) (ee := 0) (off := 834) (by decide +kernel) (by decide) (by decide) (by decide)
theorem sw_11 {x : Cx} {L : Lc} {w : Wd} {mc ms : Nat} {post : Po} : WP x 167 40 L [.int (nI 11)] w mc ms post = WP x 167 942 L [] w mc ms post :=
  sw_t (d := 1230) (lo := 0) (hi := 15) (offs := #[80, 148, 204, 296, 388, 468, 536, 604, 660, 716, 834, 902, 982, 1050, 1118, 1174]) (n := 80) (a := 0) (b := 0) (j := 0) (ee := 0) (off := 902) (by decide +kernel) (by decide) (by decide) (by decide)
theorem sw_12 {x : Cx} {L : Lc} {w : Wd} {mc ms : Nat} {post : Po} : WP x 167 40 L [.int (nI 12)] w mc ms post = WP x 167 1022 L [] w mc ms post :=
  sw_t (d := 1230) (lo := 0) (hi := 15) (offs := #[80, 148, 204, 296, 388, 468, 536, 604, 660, 716, 834, 902, 982, 1050, 1118, 1174]) (n := 80) (a := 0) (b := 0) (j := 0) (ee := 0) (off := 982) (by decide +kernel) (by decide) (by decide) (by decide)
theorem sw_13 {x : Cx} {L : Lc} {w : Wd} {mc ms : Nat} {post : Po} : WP x 167 40 L [.int (nI 13)] w mc ms post = WP x 167 1090 L [] w mc ms post :=
  sw_t (d := 1230) (lo := 0) (hi := 15) (offs := #[80, 148, 204, 296, 388, 468, 536, 604, 660, 716, 834, 902, 982, 1050, 1118, 1174]) (n := 80) (a := 0) (b := 0) (j := 0) (ee := 0) (off := 1050) (by decide +kernel) (by decide) (by decide) (by decide)
theorem sw_14 {x : Cx} {L : Lc} {w : Wd} {mc ms : Nat} {post : Po} : WP x 167 40 L [.int (nI 14)] w mc ms post = WP x 167 1158 L [] w mc ms post :=
  sw_t (d := 1230) (lo := 0) (hi := 15) (offs := #[80, 148, 204, 296, 388, 468, 536, 604, 660, 716, 834, 902, 982, 1050, 1118, 1174]) (n := 80) (a := 0) (b := 0) (j := 0) (ee := 0) (off := 1118) (by decide +kernel) (by decide) (by decide) (by decide)
theorem sw_15 {x : Cx} {L : Lc} {w : Wd} {mc ms : Nat} {post : Po} : WP x 167 40 L [.int (nI 15)] w mc ms post = WP x 167 1214 L [] w mc ms post :=
  sw_t (d := 1230) (lo := 0) (hi := 15) (offs := #[80, 148, 204, 296, 388, 468, 536, 604, 660, 716, 834, 902, 982, 1050, 1118, 1174]) (n := 80) (a := 0) (b := 0) (j := 0) (ee := 0) (off := 1174) (by decide +kernel) (by decide) (by decide) (by decide)
section
variable {x : Cx} {l : Ly} {n : Nn} {c : Cc} {mc ms i : Nat} {post : Po} {l1 l2 l3 l5 l6 : Option Value}
theorem lp_end (h : Lay x l n) (hE : xB x ≠ xE x) (hX : xN x < 2 ^ 31) (hi : i < 2 ^ 31) (hx : xN x < i + 7) : WP x 167 23 [some (.ref (xB x)), l1, l2, l3, some (.int (nI i)), l5, l6] [] (Wo x l n c) mc ms post = post (.inl (some (.int (nI 1)))) (Wo x l n c) := by
  rw [t_167_23, t_167_25, t_167_26, Wo_B h, qwA_B hE, t_167_27, t_167_29, t_167_30, if_pos ((lp_lt hX hi).mpr hx), t_167_1276, t_167_1277]
  exact propext ⟨fun q => q.2, fun q => ⟨Or.inr rfl, q⟩⟩
theorem lp_in (h : Lay x l n) (hE : xB x ≠ xE x) (hX : xN x < 2 ^ 31) (hi : i < 2 ^ 31) (hx : ¬ xN x < i + 7) : WP x 167 23 [some (.ref (xB x)), l1, l2, l3, some (.int (nI i)), l5, l6] [] (Wo x l n c) mc ms post = WP x 167 40 [some (.ref (xB x)), l1, l2, l3, some (.int (nI i)), l5, l6] [.int (xS x i &&& nI 15)] (Wo x l n c) mc ms post := by
  rw [t_167_23, t_167_25, t_167_26, Wo_B h, qwA_B hE, t_167_27, t_167_29, t_167_30, if_neg (fun z => hx ((lp_lt hX hi).mp z)), t_167_33, t_167_34, t_167_36, Wo_B h, qwL_b, t_167_37, t_167_39, nI_clamp hi]
  exact propext ⟨fun q => q.2, fun q => ⟨vp_in_nI (show i < xN x by omega) hX, q⟩⟩
theorem lp (hE : xB x ≠ xE x) (hX : xN x < 2 ^ 31) (hp : ∀ w, post (.inl (some (.int (nI 1)))) w) : ∀ (k i : Nat) (l : Ly) (n : Nn) (c : Cc) (l5 l6 : Option Value) (mc ms : Nat), xN x < i + 7 * k + 7 → i ≤ xN x → Lay x l n → l.1 0 1 = l.1 9 n.1 → Inv n c → 13 * k ≤ mc → 148 * k ≤ ms →
    WP x 167 23 [some (.ref (xB x)), some (.ref (l.1 0 0)), some (.ref (l.1 18 0)), some (.ref (l.1 19 0)), some (.int (nI i)), l5, l6] [] (Wo x l n c) mc ms post
  | 0, i, l, n, c, l5, l6, mc, ms, hk, hi, h, hD, hI, ha, hb => by
    rw [lp_end h hE hX (by omega) (by omega)]
    exact hp _
  | k + 1, i, l, n, c, l5, l6, mc, ms, hk, hi, h, hD, hI, ha, hb => by
    by_cases hx : xN x < i + 7
    · rw [lp_end h hE hX (by omega) hx]
      exact hp _
    · have hG : Go x post (l.1 0 0) (l.1 18 0) (l.1 19 0) i (13 * k) (148 * k) := by
        intro l' n' c' l5' l6' mc' ms' h' hD' hI' e1 e2 e3 ha' hb'
        rw [t_167_1270, t_167_1273, nI_add, ← e1, ← e2, ← e3]
        exact lp hE hX hp k (i + 7) l' n' c' l5' l6' mc' ms' (by omega) (by omega) h' hD' hI' ha' hb'
      rw [lp_in h hE hX (by omega) hx]
      obtain ⟨j, hj, e⟩ := pk_andE (xS x i) (m := nI 15) 4 (by decide)
      rw [e]
      have h6 : i + 6 < xN x := by omega
      have a1 : 13 * k + 13 ≤ mc := by omega
      have b1 : 148 * k + 148 ≤ ms := by omega
      rcases (show j = 0 ∨ j = 1 ∨ j = 2 ∨ j = 3 ∨ j = 4 ∨ j = 5 ∨ j = 6 ∨ j = 7 ∨ j = 8 ∨ j = 9 ∨ j = 10 ∨ j = 11 ∨ j = 12 ∨ j = 13 ∨ j = 14 ∨ j = 15 by omega) with rfl | rfl | rfl | rfl | rfl | rfl | rfl | rfl | rfl | rfl | rfl | rfl | rfl | rfl | rfl | rfl
      · rw [sw_0]
        exact op_0 h hD hI h6 hX hG a1 b1
      · rw [sw_1]
        exact op_1 h hD hI h6 hX hG a1 b1
      · rw [sw_2]
        exact op_2 h hD hI h6 hX hG a1 b1
      · rw [sw_3]
        exact op_3 h hD hI h6 hX hG a1 b1
      · rw [sw_4]
        exact op_4 h hD hI h6 hX hG a1 b1
      · rw [sw_5]
        exact op_5 h hD hI h6 hX hG a1 b1
      · rw [sw_6]
        exact op_6 h hD hI h6 hX hG a1 b1
      · rw [sw_7]
        exact op_7 h hD hI h6 hX hG a1 b1
      · rw [sw_8]
        exact op_8 h hD hI h6 hX hG a1 b1
      · rw [sw_9]
        exact op_9 h hD hI h6 hX hG a1 b1
      · rw [sw_10]
        exact op_10 h hD hI h6 hX hG a1 b1
      · rw [sw_11]
        exact op_11 h hD hI h6 hX hG a1 b1
      · rw [sw_12]
        exact op_12 h hD hI h6 hX hG a1 b1
      · rw [sw_13]
        exact op_13 h hD hI h6 hX hG a1 b1
      · rw [sw_14]
        exact op_14 h hD hI h6 hX hG a1 b1
      · rw [sw_15]
        exact op_15 h hD hI h6 hX hG a1 b1
theorem Wl_0 : Wl x [] (fun _ => none) := ⟨List.nodup_nil, fun q hq => absurd hq List.not_mem_nil, fun _ _ => rfl, fun q hq => absurd hq List.not_mem_nil⟩
/-- THE LAW, in the small machine -/
theorem law_all (hE : xB x ≠ xE x) (hN : xN x ≤ 3584) (hp : ∀ w, post (.inl (some (.int (nI 1)))) w) (ha : 6694 ≤ mc) (hb : 76684 ≤ ms) : WP x 167 0 [some (.ref (xB x)), none, none, none, none, none, none] [] (fun _ => none) mc ms post := by
  rw [t_167_0]
  refine ⟨by omega, by omega, fun sm f1 => ?_⟩
  have h1 := Wl_new (e := eO 7 [.null, .null, .null, .null, .null]) Wl_0 f1
  rw [t_167_3, t_167_4, dfl_7]
  refine ⟨by omega, by omega, s72 h1 (fun r1 r2 n1 n2 sl pc p1 p2 p3 rd d1 d2 w1 h2 => ?_)⟩
  rw [aftN_n, t_167_7, t_167_8]
  refine ⟨by omega, by omega, fun om f2 => ?_⟩
  have h3 := Wl_new (e := eO 8 [.int 0, .null, .null, .int 0, .null, .null, .null, .null, .int 0, .null, .null, .null, .null, .int 0, .null, .null, .null, .null, .null, .null, .null, .null, .int 0, .null, .null, .null, .null, .null]) h2 f2
  rw [t_167_11, t_167_12, dfl_8]
  refine ⟨by omega, by omega, s103 h3 (fun a1 a2 a4 a5 a6 a7 a9 a10 a11 a12 a14 a15 a16 a17 a18 a19 a20 a21 a23 a24 a25 a26 a27 w2 h4 => ?_)⟩
  rw [aftN_n, t_167_15, t_167_16, t_167_17]
  refine ⟨by decide, by decide, by omega, by rw [nI_clamp (by decide)]; omega, fun oo f3 => ?_⟩
  rw [nI_clamp (by decide)]
  have h5 := Wl_new (e := eJ x 1 (fun _ => 0)) h4 f3
  rw [t_167_19, t_167_20, t_167_21]
  obtain ⟨l, hL, hw, e1, e2, e3, e4⟩ := init_W h5
  rw [hw, ← e1, ← e2, ← e3]
  exact lp hE (by omega) hp 512 0 l n0 c0 none none _ _ (by omega) (Nat.zero_le _) hL e4 Inv_0 (by omega) (by omega)
end
