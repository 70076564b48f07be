section
variable {n : Nn} {c d : Cc}
/-- the class's sweep looks at the class's rows alone -/
theorem err_cl (h : ∀ k, k < 18 → d k = c k) {s : Nat} : errC n d s = errC n c s := by
  unfold errC lbls lins
  rw [h 9 (by omega), h 10 (by omega), h 12 (by omega), h 13 (by omega), h 15 (by omega), h 16 (by omega), h 17 (by omega), show shS d s = shS c s by funext r; unfold shS; rw [h 11 (by omega), h 13 (by omega)]]
theorem drw_cl (h : ∀ k, k < 18 → d k = c k) {s : Nat} : ∀ k, k < 18 → drw n d s k = drw n c s k := by
  have e1 : lbls n d s = lbls n c s := by
    unfold lbls
    rw [h 12 (by omega), h 13 (by omega), h 15 (by omega), h 16 (by omega)]
  have e2 : lins n d s = lins n c s := by
    unfold lins
    rw [h 9 (by omega), h 10 (by omega), h 13 (by omega), h 17 (by omega), show shS d s = shS c s by funext r; unfold shS; rw [h 11 (by omega), h 13 (by omega)]]
  intro k hk
  unfold drw cL
  rw [e1, e2]
  funext i
  unfold cu
  rw [h k hk]
theorem swp_cl : ∀ {k s : Nat} {p q : Cc × Int32}, (∀ j, j < 18 → q.1 j = p.1 j) → q.2 = p.2 → (itF (swF n) k s q).2 = (itF (swF n) k s p).2
  | 0, s, p, q, h, h2 => h2
  | k + 1, s, p, q, h, h2 => by
    rw [itF_s, itF_s]
    refine swp_cl (drw_cl h) ?_
    show (if errC n q.1 s ≤ 0 then q.2 else q.2 + nI 1) = (if errC n p.1 s ≤ 0 then p.2 else p.2 + nI 1)
    rw [err_cl h, h2]
theorem GM_0 {m : Nat} : GM c m 0 = c 31 0 m := rfl
theorem at_c (hI : Inv n c) (h : Sc c d) {s X Y : Nat} (hs' : s < n.2.2.1) (hx : X < 40) (hy : Y < 40) : ltF (tkB (lbls n c s).1 (c 12) (plV (nI X) (nI Y)) (nI 1)) n.2.1 0 = laF (fun o => takM ((lblM n d s).1 o) (c 31 0 o) (nI X) (nI Y)) n.2.1 0 (-1) := by
  obtain ⟨ag, jk⟩ := lb_Ag hI h hs'
  have t := at_eq (f' := lblM n d s) hI.2.1.2.2.2.2.1 hI.2.1.2.2.2.2.2.2.2.1 ag jk hx hy
  rw [tkB_c (N := n.2.1) (G := c 12) (G' := GM c) hI.2.2.2.2.1]
  simp only [GM_0] at t
  exact t
theorem at_c2 (hI : Inv n c) (h : Sc c d) {s : Nat} {a b : Int32} (hs' : s < n.2.2.1) (hp : inP a b = true) : ltF (tkB (lbls n c s).1 (c 12) (plV a b) (nI 1)) n.2.1 0 = laF (fun o => takM ((lblM n d s).1 o) (c 31 0 o) a b) n.2.1 0 (-1) := by
  obtain ⟨X, Y, hx, hy, rfl, rfl⟩ := inP_n hp
  exact at_c hI h hs' hx hy
theorem swe_cl (h : ∀ k, k < 18 → d k = c k) : (sweC n c).2 = (sweC n d).2 := (swp_cl (p := (c, nI 0)) (q := (d, nI 0)) h rfl).symm
end
theorem no1 {P : Prop} : nI 1 = nI 0 → P := fun z => absurd z (by decide)
theorem no2 {P : Prop} : nI 2 = nI 0 → P := fun z => absurd z (by decide)
theorem no3 {P : Prop} : nI 3 = nI 0 → P := fun z => absurd z (by decide)
theorem o19 {c : Cc} {V : Int32} : cu c 19 0 (upd (c 19 0) 0 V) 19 0 0 = V := by rw [cu_s, upd_s]
theorem o19t {c : Cc} {V v : Int32} : thC (cu c 19 0 (upd (c 19 0) 0 V)) v 19 0 0 = V := by rw [thC_n (by decide), o19]
theorem mv_18 {c : Cc} {k : Nat} {a b : Int32} : mvC c k a b 18 0 0 = nI 0 := by
  unfold mvC
  rw [cu_k (by decide), cu_k (by decide), thC_0]
theorem mv_19 {c : Cc} {k : Nat} {a b : Int32} : mvC c k a b 19 = c 19 := by
  funext i
  unfold mvC
  rw [cu_k (by decide), cu_k (by decide), thC_n (by decide)]
theorem sh_18 {c : Cc} {k : Nat} {a b : Int32} : shM c k a b 18 0 0 = nI 0 := by
  unfold shM
  rw [cu_k (by decide), cu_k (by decide), thC_0]
theorem sh_19 {c : Cc} {k : Nat} {a b : Int32} : shM c k a b 19 = c 19 := by
  funext i
  unfold shM
  rw [cu_k (by decide), cu_k (by decide), thC_n (by decide)]
theorem sl_18 {c : Cc} {k : Nat} {a : Int32} : slM c k a 18 0 0 = nI 0 := by
  unfold slM
  rw [cu_k (by decide), thC_0]
theorem sl_19 {c : Cc} {k : Nat} {a : Int32} : slM c k a 19 = c 19 := by
  funext i
  unfold slM
  rw [cu_k (by decide), thC_n (by decide)]
theorem kp_18 {n : Nn} {c : Cc} {s : Nat} : kpC n c s 18 = c 18 := by
  funext i
  unfold kpC
  rw [cu_k (by decide), cK_n (by decide) (by decide), cu_k (by decide), cM_n (by decide) (by decide)]
theorem kp_19 {n : Nn} {c : Cc} {s : Nat} : kpC n c s 19 = c 19 := by
  funext i
  unfold kpC
  rw [cu_k (by decide), cK_n (by decide) (by decide), cu_k (by decide), cM_n (by decide) (by decide)]
theorem pr_18 {n : Nn} {c : Cc} {s : Nat} {v : Int32} : prtC n c s v 18 0 0 = nI 0 := by
  unfold prtC
  rw [cu_k (by decide), kp_18, thC_0]
theorem pr_19 {n : Nn} {c : Cc} {s : Nat} {v : Int32} : prtC n c s v 19 = c 19 := by
  funext i
  unfold prtC
  rw [cu_k (by decide), kp_19, thC_n (by decide), er_19]
theorem rg_n {lo hi : Nat} {v : Int32} (hb : hi < 2 ^ 30) (h : inR (nI lo) v (nI hi) = true) (hlo : lo < 2 ^ 30) : ∃ k, lo ≤ k ∧ k ≤ hi ∧ v = nI k := by
  unfold inR at h
  obtain ⟨h1, h2⟩ := (Bool.and_eq_true _ _).mp h
  rw [Bool.not_eq_true', decide_eq_false_iff_not] at h1
  have h2 := of_decide_eq_true h2
  have h0 : ¬ v < 0 := fun z => h1 (Int32.lt_of_lt_of_le z (nI_pos' (by omega)))
  obtain ⟨k, hk, rfl⟩ := nI_of h0
  refine ⟨k, ?_, (nI_leI hk (by omega)).mp h2, rfl⟩
  have : ¬ k < lo := fun z => h1 ((nI_ltI hk (by omega)).mpr z)
  omega
theorem ln_n {v : Int32} (h : inR (nI 1) v (nI 8) = true) : ∃ k, 1 ≤ k ∧ k ≤ 8 ∧ v = nI k := rg_n (by decide) h (by decide)
theorem fo_n {v : Int32} (h : inR (-1) v (nI 39) = true) : ∃ g, g < 41 ∧ v = nI g - nI 1 := by
  unfold inR at h
  obtain ⟨h1, h2⟩ := (Bool.and_eq_true _ _).mp h
  rw [Bool.not_eq_true', decide_eq_false_iff_not] at h1
  have h2 := of_decide_eq_true h2
  by_cases h0 : v < 0
  · have : v = -1 := by
      rw [Int32.lt_iff_toInt_lt] at h0 h1
      have e1 : (-1 : Int32).toInt = -1 := by decide
      have e0 : (0 : Int32).toInt = 0 := by decide
      rw [e1] at h1
      rw [e0] at h0
      exact Int32.toInt_inj.mp (by rw [e1]; omega)
    exact ⟨0, by omega, by rw [this]; decide⟩
  · obtain ⟨k, hk, rfl⟩ := nI_of h0
    have := (nI_leI hk (by decide)).mp h2
    exact ⟨k + 1, by omega, by rw [pk_sub (by omega), Nat.add_sub_cancel]⟩
theorem sh_n {a1 a2 a3 a4 a5 : Int32} (h : shOk a1 a2 a3 a4 a5 = true) : ∃ X Y Z W g, X < 40 ∧ Y < 40 ∧ Z < 40 ∧ W < 40 ∧ g < 41 ∧ a1 = nI X ∧ a2 = nI Y ∧ a3 = nI Z ∧ a4 = nI W ∧ a5 = nI g - nI 1 := by
  obtain ⟨q1, q2⟩ := (Bool.and_eq_true _ _).mp h
  obtain ⟨q3, q4⟩ := (Bool.and_eq_true _ _).mp q2
  obtain ⟨q5, q6⟩ := (Bool.and_eq_true _ _).mp q4
  obtain ⟨X, Y, hx, hy, eX, eY⟩ := inP_n q1
  rw [eX] at q3
  rw [eY] at q5
  obtain ⟨Z, _, hz, eZ⟩ := rg_n (by decide) q3 (by omega)
  obtain ⟨W, _, hw, eW⟩ := rg_n (by decide) q5 (by omega)
  obtain ⟨g, hg, eg⟩ := fo_n q6
  exact ⟨X, Y, Z, W, g, hx, hy, by omega, by omega, hg, eX, eY, eZ, eW, eg⟩
section
variable {x : Cx} {l : Ly} {n : Nn} {c : Cc} {mc ms i a b : Nat} {post : Po} {l5 l6 : Option Value}
theorem op_0 (h : Lay x l n) (hD : l.1 0 1 = l.1 9 n.1) (hI : Inv n c) (hi : i + 6 < xN x) (hX : xN x < 2 ^ 31) (hG : Go x post (l.1 0 0) (l.1 18 0) (l.1 19 0) i a b) (ha : a + 13 ≤ mc) (hb : b + 148 ≤ ms) : WP x 167 120 [some (.ref (xB x)), some (.ref (l.1 0 0)), some (.ref (l.1 18 0)), some (.ref (l.1 19 0)), some (.int (nI i)), l5, l6] [] (Wo x l n c) mc ms post := by
  rw [hd_0 h hi hX]
  refine ⟨by omega, by omega, ?_⟩
  rw [wr_0 h]
  have hI0 := hI
  obtain ⟨i1, i2, i3, ⟨dn, k1, k2, k3, k4⟩, i5, i6, i7, i8, i9, i10⟩ := hI0
  have ez : szO (c 9) n.1 = dn := szO_nI k3 (by omega)
  rw [s73 h hD i1]
  by_cases q : inP (ar x i 1) (ar x i 2) = true
  · rw [if_pos q]
    obtain ⟨X, Y, hx, hy, eX, eY⟩ := inP_n q
    have de := dr_eq k1 k3 k4 hx hy
    rw [← eX, ← eY] at de
    by_cases q2 : szO (c 9) n.1 = 8
    · rw [if_pos q2]
      rw [we_0_3, aftN_v, md_0 h hi hX, s114b h k2 k1 q (by rw [decide_eq_true (show dn = 8 by omega)]; rfl), aft_v, tl_0 h thC_0 no2]
      exact hG _ _ _ _ _ _ _ h hD (Inv_Sc hI Sc_th) rfl rfl rfl (by omega) (by omega)
    · rw [if_neg q2]
      by_cases q3 : plc (c 9 n.1 2) (c 10 n.1) (c 9 n.1 2 - nI 1) = plV (ar x i 1) (ar x i 2)
      · rw [if_pos q3]
        rw [decide_eq_true q3] at de
        rw [we_0_3, aftN_v, md_0 h hi hX, s114b h k2 k1 q (by rw [← de, Bool.or_true]), aft_v, tl_0 h thC_0 no2]
        exact hG _ _ _ _ _ _ _ h hD (Inv_Sc hI Sc_th) rfl rfl rfl (by omega) (by omega)
      · rw [if_neg q3]
        rw [decide_eq_false q3] at de
        have hv := ez
        rw [wn_0 h, aftN_v, md_0 h hi hX]
        have c183 : cu (drfC n c (plV (ar x i 1) (ar x i 2))) 19 0 (upd (drfC n c (plV (ar x i 1) (ar x i 2)) 19 0) 0 (nI (szO (c 9) n.1 + 1))) 18 0 3 = nI dn := by
          rw [cu_k (by decide)]
          unfold drfC
          rw [cu_k (by decide), cu_k (by decide)]
          exact k2
        have ct : thrM (cu (drfC n c (plV (ar x i 1) (ar x i 2))) 19 0 (upd (drfC n c (plV (ar x i 1) (ar x i 2)) 19 0) 0 (nI (szO (c 9) n.1 + 1)))) dn (ar x i 1) (ar x i 2) = thrM c dn (ar x i 1) (ar x i 2) := by
          unfold thrM drfC
          rw [cu_k (by decide), cu_k (by decide), cu_k (by decide), cu_k (by decide), cu_k (by decide), cu_k (by decide)]
        rw [s114c h c183 k1 q (by rw [ct, ← de, decide_eq_false (show ¬ dn = 8 by omega)]; rfl), aft_v, tl_0 h (k := nI 0) (by unfold mdC; rw [cu_s, upd_n (by decide), upd_s]) (fun _ => by
          unfold mdC
          rw [cu_k (by decide), cu_k (by decide), cu_k (by decide), thC_n (by decide), o19, ez])]
        refine hG _ _ _ _ _ _ _ h hD (Inv_Sc ?_ (Sc_md Sc_19)) rfl rfl rfl (by omega) (by omega)
        rw [eX, eY]
        exact P_draft hI k2 (by omega) hx hy
  · have q' : inP (ar x i 1) (ar x i 2) = false := by cases e : inP (ar x i 1) (ar x i 2) <;> simp_all
    rw [if_neg q]
    rw [we_0_2, aftN_v, md_0 h hi hX, s114a h k2 k1 q', aft_v, tl_0 h thC_0 no1]
    exact hG _ _ _ _ _ _ _ h hD (Inv_Sc hI Sc_th) rfl rfl rfl (by omega) (by omega)
theorem op_1 (h : Lay x l n) (hD : l.1 0 1 = l.1 9 n.1) (hI : Inv n c) (hi : i + 6 < xN x) (hX : xN x < 2 ^ 31) (hG : Go x post (l.1 0 0) (l.1 18 0) (l.1 19 0) i a b) (ha : a + 13 ≤ mc) (hb : b + 148 ≤ ms) : WP x 167 188 [some (.ref (xB x)), some (.ref (l.1 0 0)), some (.ref (l.1 18 0)), some (.ref (l.1 19 0)), some (.int (nI i)), l5, l6] [] (Wo x l n c) mc ms post := by
  rw [hd_1 h hi hX]
  refine ⟨by omega, by omega, ?_⟩
  rw [wr_1 h]
  have hI0 := hI
  obtain ⟨i1, i2, i3, ⟨dn, k1, k2, k3, k4⟩, i5, i6, i7, i8, i9, i10⟩ := hI0
  have ez : szO (c 9) n.1 = dn := szO_nI k3 (by omega)
  have hN := i2.2.2.2.1
  cases q : inR (nI 0) (ar x i 1) (nI 3)
  · refine s74n h q ?_
    rw [we_1_2, aftN_v, md_1 h hi hX, s115n h q, aft_v, tl_1 h thC_0 no1]
    exact hG _ _ _ _ _ _ _ h hD (Inv_Sc hI Sc_th) rfl rfl rfl (by omega) (by omega)
  · by_cases q2 : dn < 2 ∨ n.1 = 8
    · refine s74f h hD i1 q (by rw [ez]; exact q2) ?_
      rw [we_1_3, aftN_v, md_1 h hi hX, s115f h k2 k1 i2.1 hN q q2, aft_v, tl_1 h thC_0 no2]
      exact hG _ _ _ _ _ _ _ h hD (Inv_Sc hI Sc_th) rfl rfl rfl (by omega) (by omega)
    · refine s74 h hD i1 q (by rw [ez]; omega) (by omega) (fun l' hl' hE hD' => ?_)
      rw [← hE.1, ← hE.2.1, ← hE.2.2] at hG ⊢
      have g : ∀ k, k ≠ 9 → k ≠ 10 → k ≠ 11 → roadC n c (ar x i 1) k = c k := by
        intro k z1 z2 z3
        funext i'
        unfold roadC rdC genC
        rw [cu_k z3, cu_k z2, cu_k z1, cw_n z3, cu_k z1]
      rw [wn_1 hl', aftN_v, md_1 hl' hi hX, s115 hl' (N := n.1) (dn := dn) (by rw [cu_k (by decide), g 18 (by decide) (by decide) (by decide)]; exact k2) k1 (by rw [cu_k (by decide), g 18 (by decide) (by decide) (by decide)]; exact i2.1) (by omega) q (by omega), aft_v, tl_1 hl' (k := nI 0) (by unfold mrC; rw [cu_s, upd_n (by decide), upd_n (by decide), upd_s]) (fun _ => by
        unfold mrC
        rw [cu_k (by decide), cu_k (by decide), cu_k (by decide), cu_k (by decide), cu_k (by decide), cu_k (by decide), thC_n (by decide), o19])]
      exact hG _ _ _ _ _ _ _ hl' hD' (Inv_Sc (P_road hI k2 k1 (by omega) (by omega)) (Sc_mr Sc_19)) rfl rfl rfl (by omega) (by omega)
theorem op_2 (h : Lay x l n) (hD : l.1 0 1 = l.1 9 n.1) (hI : Inv n c) (hi : i + 6 < xN x) (hX : xN x < 2 ^ 31) (hG : Go x post (l.1 0 0) (l.1 18 0) (l.1 19 0) i a b) (ha : a + 13 ≤ mc) (hb : b + 148 ≤ ms) : WP x 167 244 [some (.ref (xB x)), some (.ref (l.1 0 0)), some (.ref (l.1 18 0)), some (.ref (l.1 19 0)), some (.int (nI i)), l5, l6] [] (Wo x l n c) mc ms post := by
  rw [hd_2 h hi hX]
  refine ⟨by omega, by omega, ?_⟩
  rw [wr_2 h]
  have hI0 := hI
  obtain ⟨i1, i2, i3, i4, i5, i6, i7, i8, i9, i10⟩ := hI0
  have hN := i2.2.2.2.1
  rw [s75 h i1]
  by_cases q : inN n.1 (ar x i 1) = true
  · rw [if_pos q]
    obtain ⟨r, hr, er⟩ := inN_t (by omega) q
    have ecl : (ar x i 1).toNatClampNeg = r := by rw [er, nI_clamp (by omega)]
    have ez := RdT_sz i3 hr
    rw [ecl]
    by_cases q2 : inN (szO (c 9) r) (ar x i 2) = true
    · rw [if_pos q2]
      have hz8 := (i2.2.2.2.2.2.2.1 r hr).2.2
      obtain ⟨p, hp, ep⟩ := inN_t (by omega) q2
      have ecp : (ar x i 2).toNatClampNeg = p := by rw [ep, nI_clamp (by omega)]
      by_cases q3 : inP (ar x i 3) (ar x i 4) = true
      · rw [if_pos q3]
        obtain ⟨X, Y, hx, hy, eX, eY⟩ := inP_n q3
        have me := mv_eq hI hr hp hx hy
        rw [← eX, ← eY, ← ep] at me
        rw [me, ecp]
        cases q4 : (ahM c r p (ar x i 3) (ar x i 4) || bhM c r (szN (c 26 0) r) p (ar x i 3) (ar x i 4))
        · rw [if_neg Bool.false_ne_true]
          have g : ∀ k, k ≠ 10 → k ≠ 11 → movC n c r p (plV (ar x i 3) (ar x i 4)) k = c k := by
            intro k z2 z3
            unfold movC genC
            rw [cw_n z3]
            funext i'
            exact cu_k z2
          have hP := P_move hI hr hp hx hy
          rw [← eX, ← eY] at hP
          have sc1 : Sc (movC n c r p (plV (ar x i 3) (ar x i 4))) (cu (sweC n (movC n c r p (plV (ar x i 3) (ar x i 4)))).1 19 0 (upd ((sweC n (movC n c r p (plV (ar x i 3) (ar x i 4)))).1 19 0) 0 (sweC n (movC n c r p (plV (ar x i 3) (ar x i 4)))).2)) := Sc_t (d := (sweC n (movC n c r p (plV (ar x i 3) (ar x i 4)))).1) Sc_sw Sc_19
          have e2 : (sweC n (movC n c r p (plV (ar x i 3) (ar x i 4)))).2 = (wrM n (mvC (cu (sweC n (movC n c r p (plV (ar x i 3) (ar x i 4)))).1 19 0 (upd ((sweC n (movC n c r p (plV (ar x i 3) (ar x i 4)))).1 19 0) 0 (sweC n (movC n c r p (plV (ar x i 3) (ar x i 4)))).2)) (8 * r + p) (ar x i 3) (ar x i 4))).2 := by
            have ec : (sweC n (movC n c r p (plV (ar x i 3) (ar x i 4)))).2 = (sweC n (mvC (movC n c r p (plV (ar x i 3) (ar x i 4))) (8 * r + p) (ar x i 3) (ar x i 4))).2 := swe_cl (fun k hk => by
              unfold mvC thC
              funext i'
              rw [cu_k (by omega), cu_k (by omega), cu_k (by omega)])
            exact ec.trans (sweep_eq hP (Sc_mv sc1))
          rw [wn_2 h]
          generalize hC1 : cu (sweC n (movC n c r p (plV (ar x i 3) (ar x i 4)))).1 19 0 (upd ((sweC n (movC n c r p (plV (ar x i 3) (ar x i 4)))).1 19 0) 0 (sweC n (movC n c r p (plV (ar x i 3) (ar x i 4)))).2) = c1 at sc1 e2 ⊢
          have c1k : ∀ k, (k ≠ 10 ∧ k ≠ 11 ∧ k ≠ 15 ∧ k ≠ 16 ∧ k ≠ 17 ∧ k ≠ 18 ∧ k ≠ 46 ∧ k ≠ 47 ∧ k ≠ 19) → c1 k = c k := fun k hk => (Sc_k sc1 (by omega)).trans (g k (by omega) (by omega))
          have c118 : ∀ j, j ≠ 0 → c1 18 0 j = c 18 0 j := fun j hj => (sc1.2.2 j hj).trans (by rw [g 18 (by decide) (by decide)])
          have hM1 : MI n c1 := MI_e i2 (c118 _ (by decide)) (c118 _ (by decide)) (c118 _ (by decide)) (c1k _ (by decide)) (c1k _ (by decide)) (c1k _ (by decide)) (c1k _ (by decide)) (c1k _ (by decide)) (c1k _ (by decide)) (c1k _ (by decide))
          have q4' : (ahM c1 r p (ar x i 3) (ar x i 4) || bhM c1 r (szN (c1 26 0) r) p (ar x i 3) (ar x i 4)) = false := by
            unfold ahM bhM atM at q4 ⊢
            rw [c1k 24 (by decide), c1k 25 (by decide), c1k 26 (by decide)]
            exact q4
          have h19 : c1 19 0 0 = (sweC n (movC n c r p (plV (ar x i 3) (ar x i 4)))).2 := by rw [← hC1, o19]
          rw [aftN_v, md_2 h hi hX, er, ep, s117 h hM1 hr (by rw [c1k 26 (by decide), ← ez]; exact hp) (MI_mv hM1), if_pos q3, q4', if_neg Bool.false_ne_true, aft_v, tl_2 h (k := nI 0) (by
            unfold wrM
            rw [wr_18]
            show (mvC c1 (8 * r + p) (ar x i 3) (ar x i 4)) 18 0 0 = nI 0
            exact mv_18) (fun _ => by
            rw [← e2, ← h19]
            unfold wrM
            rw [wr_19]
            show (mvC c1 (8 * r + p) (ar x i 3) (ar x i 4)) 19 0 0 = c1 19 0 0
            rw [mv_19])]
          exact hG _ _ _ _ _ _ _ h hD (Inv_Sc hP (Sc_t (Sc_mv sc1) Sc_wr)) rfl rfl rfl (by omega) (by omega)
        · rw [if_pos rfl]
          rw [we_2_3, aftN_v, md_2 h hi hX, er, ep, s117 h i2 hr (by rw [← ez]; exact hp) (MI_mv i2), if_pos q3, q4, if_pos rfl, aft_v, tl_2 h thC_0 no3]
          exact hG _ _ _ _ _ _ _ h hD (Inv_Sc hI Sc_th) rfl rfl rfl (by omega) (by omega)
      · rw [if_neg q3]
        rw [we_2_2, aftN_v, md_2 h hi hX, er, ep, s117 h i2 hr (by rw [← ez]; exact hp) (MI_mv i2), if_neg q3, aft_v, tl_2 h thC_0 no2]
        exact hG _ _ _ _ _ _ _ h hD (Inv_Sc hI Sc_th) rfl rfl rfl (by omega) (by omega)
    · rw [if_neg q2]
      have q2' : inN (szN (c 26 0) r) (ar x i 2) = false := by rw [← ez]; cases e : inN (szO (c 9) r) (ar x i 2) <;> simp_all
      rw [we_2_1, aftN_v, md_2 h hi hX, er, s117o h i2 hr q2', aft_v, tl_2 h thC_0 no1]
      exact hG _ _ _ _ _ _ _ h hD (Inv_Sc hI Sc_th) rfl rfl rfl (by omega) (by omega)
  · have q' : inN n.1 (ar x i 1) = false := by cases e : inN n.1 (ar x i 1) <;> simp_all
    rw [if_neg q]
    rw [we_2_1, aftN_v, md_2 h hi hX, s117n h i2 q', aft_v, tl_2 h thC_0 no1]
    exact hG _ _ _ _ _ _ _ h hD (Inv_Sc hI Sc_th) rfl rfl rfl (by omega) (by omega)
theorem op_3 (h : Lay x l n) (hD : l.1 0 1 = l.1 9 n.1) (hI : Inv n c) (hi : i + 6 < xN x) (hX : xN x < 2 ^ 31) (hG : Go x post (l.1 0 0) (l.1 18 0) (l.1 19 0) i a b) (ha : a + 13 ≤ mc) (hb : b + 148 ≤ ms) : WP x 167 336 [some (.ref (xB x)), some (.ref (l.1 0 0)), some (.ref (l.1 18 0)), some (.ref (l.1 19 0)), some (.int (nI i)), l5, l6] [] (Wo x l n c) mc ms post := by
  rw [hd_3 h hi hX]
  refine ⟨by omega, by omega, ?_⟩
  rw [wr_3 h]
  have hI0 := hI
  obtain ⟨i1, i2, i3, i4, i5, i6, i7, i8, i9, i10⟩ := hI0
  have hN := i2.2.2.2.2.1
  cases q : (inP (ar x i 1) (ar x i 2) && (inR (nI 1) (ar x i 3) (nI 8) && inR (nI 0) (ar x i 4) (nI 3)))
  · refine s76n h i1 q ?_
    rw [we_3_2, aftN_v, md_3 h hi hX, s118n h q, aft_v, tl_3 h thC_0 no1]
    exact hG _ _ _ _ _ _ _ h hD (Inv_Sc hI Sc_th) rfl rfl rfl (by omega) (by omega)
  · by_cases q2 : n.2.1 = 10
    · refine s76f h i1 q q2 ?_
      rw [we_3_3, aftN_v, md_3 h hi hX, s118f h i2 q q2, aft_v, tl_3 h thC_0 no2]
      exact hG _ _ _ _ _ _ _ h hD (Inv_Sc hI Sc_th) rfl rfl rfl (by omega) (by omega)
    · have h10 : n.2.1 < 10 := by omega
      refine s76 h hD i1 q h10 (fun l' hl' hE hD' => ?_)
      obtain ⟨q1, q3⟩ := (Bool.and_eq_true _ _).mp q
      obtain ⟨q3, q4⟩ := (Bool.and_eq_true _ _).mp q3
      obtain ⟨X, Y, hx, hy, eX, eY⟩ := inP_n q1
      obtain ⟨L, hL1, hL8, eL⟩ := ln_n q3
      have hP := P_name hI h10 hx hy hL1 hL8 (rk := ar x i 4)
      rw [← eX, ← eY, ← eL] at hP
      rw [← hE.1, ← hE.2.1, ← hE.2.2] at hG ⊢
      rw [wn_3 hl', aftN_v, md_3 hl' hi hX, s118 hl' (N := n.2.1) (by rw [cu_k (by decide), cu_k (by decide)]; exact i2.2.1) q h10, aft_v, tl_3 hl' (k := nI 0) (by unfold nmM; rw [cu_s, upd_n (by decide), upd_s]) (fun _ => by
        unfold nmM
        rw [cu_k (by decide), cu_k (by decide), cu_k (by decide), cu_k (by decide), cu_k (by decide), thC_n (by decide), o19])]
      exact hG _ _ _ _ _ _ _ hl' hD' (Inv_Sc hP (Sc_nm Sc_19)) rfl rfl rfl (by omega) (by omega)
theorem op_4 (h : Lay x l n) (hD : l.1 0 1 = l.1 9 n.1) (hI : Inv n c) (hi : i + 6 < xN x) (hX : xN x < 2 ^ 31) (hG : Go x post (l.1 0 0) (l.1 18 0) (l.1 19 0) i a b) (ha : a + 13 ≤ mc) (hb : b + 148 ≤ ms) : WP x 167 428 [some (.ref (xB x)), some (.ref (l.1 0 0)), some (.ref (l.1 18 0)), some (.ref (l.1 19 0)), some (.int (nI i)), l5, l6] [] (Wo x l n c) mc ms post := by
  rw [hd_4 h hi hX]
  refine ⟨by omega, by omega, ?_⟩
  rw [wr_4 h]
  have hI0 := hI
  obtain ⟨i1, i2, i3, i4, i5, i6, i7, i8, i9, i10⟩ := hI0
  have hN := i2.2.2.2.2.1
  rw [s77 h i1]
  by_cases q : inN n.2.1 (ar x i 1) = true
  · rw [if_pos q]
    have qq := q
    obtain ⟨m, hm, em⟩ := inN_t (by omega) q
    have ecl : (ar x i 1).toNatClampNeg = m := by rw [em, nI_clamp (by omega)]
    rw [ecl]
    by_cases q3 : inP (ar x i 2) (ar x i 3) = true
    · rw [if_pos q3]
      obtain ⟨X, Y, hx, hy, eX, eY⟩ := inP_n q3
      have hP := P_shift hI hm hx hy
      rw [← eX, ← eY] at hP
      have sc1 : Sc (shfC c m (ar x i 2) (ar x i 3)) (cu (sweC n (shfC c m (ar x i 2) (ar x i 3))).1 19 0 (upd ((sweC n (shfC c m (ar x i 2) (ar x i 3))).1 19 0) 0 (sweC n (shfC c m (ar x i 2) (ar x i 3))).2)) := Sc_t (d := (sweC n (shfC c m (ar x i 2) (ar x i 3))).1) Sc_sw Sc_19
      have e2 : (sweC n (shfC c m (ar x i 2) (ar x i 3))).2 = (wrM n (shM (cu (sweC n (shfC c m (ar x i 2) (ar x i 3))).1 19 0 (upd ((sweC n (shfC c m (ar x i 2) (ar x i 3))).1 19 0) 0 (sweC n (shfC c m (ar x i 2) (ar x i 3))).2)) m (ar x i 2) (ar x i 3))).2 := by
        have ec : (sweC n (shfC c m (ar x i 2) (ar x i 3))).2 = (sweC n (shM (shfC c m (ar x i 2) (ar x i 3)) m (ar x i 2) (ar x i 3))).2 := swe_cl (fun k hk => by
          unfold shM thC
          funext i'
          rw [cu_k (by omega), cu_k (by omega), cu_k (by omega)])
        exact ec.trans (sweep_eq hP (Sc_sh sc1))
      rw [wn_4 h]
      generalize hC1 : cu (sweC n (shfC c m (ar x i 2) (ar x i 3))).1 19 0 (upd ((sweC n (shfC c m (ar x i 2) (ar x i 3))).1 19 0) 0 (sweC n (shfC c m (ar x i 2) (ar x i 3))).2) = c1 at sc1 e2 ⊢
      have g : ∀ k, k ≠ 12 → shfC c m (ar x i 2) (ar x i 3) k = c k := fun k hk => by funext i'; exact cu_k hk
      have c1k : ∀ k, (k ≠ 12 ∧ k ≠ 15 ∧ k ≠ 16 ∧ k ≠ 17 ∧ k ≠ 18 ∧ k ≠ 46 ∧ k ≠ 47 ∧ k ≠ 19) → c1 k = c k := fun k hk => (Sc_k sc1 (by omega)).trans (g k (by omega))
      have c118 : ∀ j, j ≠ 0 → c1 18 0 j = c 18 0 j := fun j hj => (sc1.2.2 j hj).trans (by rw [g 18 (by decide)])
      have hM1 : MI n c1 := MI_e i2 (c118 _ (by decide)) (c118 _ (by decide)) (c118 _ (by decide)) (c1k _ (by decide)) (c1k _ (by decide)) (c1k _ (by decide)) (c1k _ (by decide)) (c1k _ (by decide)) (c1k _ (by decide)) (c1k _ (by decide))
      have h19 : c1 19 0 0 = (sweC n (shfC c m (ar x i 2) (ar x i 3))).2 := by rw [← hC1, o19]
      rw [aftN_v, md_4 h hi hX, em, s119 h hM1 hm q3 (Inv_Sc hP (Sc_sh sc1)).2.1, aft_v, tl_4 h (k := nI 0) (by
        unfold wrM
        rw [wr_18]
        show (shM c1 m (ar x i 2) (ar x i 3)) 18 0 0 = nI 0
        exact sh_18) (fun _ => by
        rw [← e2, ← h19]
        unfold wrM
        rw [wr_19]
        show (shM c1 m (ar x i 2) (ar x i 3)) 19 0 0 = c1 19 0 0
        rw [sh_19])]
      exact hG _ _ _ _ _ _ _ h hD (Inv_Sc hP (Sc_t (Sc_sh sc1) Sc_wr)) rfl rfl rfl (by omega) (by omega)
    · rw [if_neg q3]
      have q3' : inP (ar x i 2) (ar x i 3) = false := by cases e : inP (ar x i 2) (ar x i 3) <;> simp_all
      rw [we_4_2, aftN_v, md_4 h hi hX, s119m h i2 qq q3', aft_v, tl_4 h thC_0 no2]
      exact hG _ _ _ _ _ _ _ h hD (Inv_Sc hI Sc_th) rfl rfl rfl (by omega) (by omega)
  · have q' : inN n.2.1 (ar x i 1) = false := by cases e : inN n.2.1 (ar x i 1) <;> simp_all
    rw [if_neg q]
    rw [we_4_1, aftN_v, md_4 h hi hX, s119n h i2 q', aft_v, tl_4 h thC_0 no1]
    exact hG _ _ _ _ _ _ _ h hD (Inv_Sc hI Sc_th) rfl rfl rfl (by omega) (by omega)
theorem op_5 (h : Lay x l n) (hD : l.1 0 1 = l.1 9 n.1) (hI : Inv n c) (hi : i + 6 < xN x) (hX : xN x < 2 ^ 31) (hG : Go x post (l.1 0 0) (l.1 18 0) (l.1 19 0) i a b) (ha : a + 13 ≤ mc) (hb : b + 148 ≤ ms) : WP x 167 508 [some (.ref (xB x)), some (.ref (l.1 0 0)), some (.ref (l.1 18 0)), some (.ref (l.1 19 0)), some (.int (nI i)), l5, l6] [] (Wo x l n c) mc ms post := by
  rw [hd_5 h hi hX]
  refine ⟨by omega, by omega, ?_⟩
  rw [wr_5 h]
  have hI0 := hI
  obtain ⟨i1, i2, i3, i4, i5, i6, i7, i8, i9, i10⟩ := hI0
  have hN := i2.2.2.2.1
  rw [s78 h i1]
  cases q : (inN n.1 (ar x i 1) && isc (ar x i 2))
  · rw [if_neg Bool.false_ne_true]
    rw [we_5_1, aftN_v, md_5 h hi hX, s126 h hN i2.1 i2.2.2.2.2.2.2.1, q, if_neg Bool.false_ne_true, aft_v, tl_5 h thC_0 no1]
    exact hG _ _ _ _ _ _ _ h hD (Inv_Sc hI Sc_th) rfl rfl rfl (by omega) (by omega)
  · rw [if_pos rfl]
    obtain ⟨q1, q2⟩ := (Bool.and_eq_true _ _).mp q
    obtain ⟨r, hr, er⟩ := inN_t (by omega) q1
    obtain ⟨k, hk, ek⟩ := isc_t q2
    have ecl : (ar x i 1).toNatClampNeg = r := by rw [er, nI_clamp (by omega)]
    rw [wn_5 h]
    have hI1 := Inv_Sc hI (Sc_19 (f := upd (c 19 0) 0 (bcI (rdA 4 (c 11 (ar x i 1).toNatClampNeg) (nI 0) (ar x i 2)))))
    have hM1 := hI1.2.1
    have e0 : bcI (rdA 4 (c 11 (ar x i 1).toNatClampNeg) (nI 0) (ar x i 2)) = cnt8 (lfM c n.1 r (ar x i 2)) := by
      rw [ecl, ek, left_c hI hr hk, left_bc hI hr]
    rw [aftN_v, md_5 h hi hX, s126 h hN hM1.1 hM1.2.2.2.2.2.2.1, q, if_pos rfl, aft_v, tl_5 h (k := nI 0) thC_0 (fun _ => by
      rw [o19t, e0, ecl, cu_k (by decide), cu_k (by decide), cu_k (by decide), cu_k (by decide)])]
    exact hG _ _ _ _ _ _ _ h hD (Inv_Sc hI1 Sc_th) rfl rfl rfl (by omega) (by omega)
theorem op_6 (h : Lay x l n) (hD : l.1 0 1 = l.1 9 n.1) (hI : Inv n c) (hi : i + 6 < xN x) (hX : xN x < 2 ^ 31) (hG : Go x post (l.1 0 0) (l.1 18 0) (l.1 19 0) i a b) (ha : a + 13 ≤ mc) (hb : b + 148 ≤ ms) : WP x 167 576 [some (.ref (xB x)), some (.ref (l.1 0 0)), some (.ref (l.1 18 0)), some (.ref (l.1 19 0)), some (.int (nI i)), l5, l6] [] (Wo x l n c) mc ms post := by
  rw [hd_6 h hi hX]
  refine ⟨by omega, by omega, ?_⟩
  rw [wr_6 h]
  have hI0 := hI
  obtain ⟨i1, i2, i3, i4, i5, i6, i7, i8, i9, i10⟩ := hI0
  have hN := i2.2.2.2.1
  rw [s79 h i1]
  cases q : (inN n.1 (ar x i 1) && isc (ar x i 2))
  · rw [if_neg Bool.false_ne_true]
    rw [we_6_1, aftN_v, md_6 h hi hX, s127 h hN i2.1 i2.2.2.2.2.2.2.1, q, if_neg Bool.false_ne_true, aft_v, tl_6 h thC_0 no1]
    exact hG _ _ _ _ _ _ _ h hD (Inv_Sc hI Sc_th) rfl rfl rfl (by omega) (by omega)
  · rw [if_pos rfl]
    obtain ⟨q1, q2⟩ := (Bool.and_eq_true _ _).mp q
    obtain ⟨r, hr, er⟩ := inN_t (by omega) q1
    obtain ⟨k, hk, ek⟩ := isc_t q2
    have ecl : (ar x i 1).toNatClampNeg = r := by rw [er, nI_clamp (by omega)]
    rw [wn_6 h]
    have hI1 := Inv_Sc hI (Sc_19 (f := upd (c 19 0) 0 (rdA 4 (c 11 (ar x i 1).toNatClampNeg) (nI 0) (ar x i 2))))
    have hM1 := hI1.2.1
    have e0 : rdA 4 (c 11 (ar x i 1).toNatClampNeg) (nI 0) (ar x i 2) = lfM c n.1 r (ar x i 2) := by
      rw [ecl, ek, left_c hI hr hk]
    rw [aftN_v, md_6 h hi hX, s127 h hN hM1.1 hM1.2.2.2.2.2.2.1, q, if_pos rfl, aft_v, tl_6 h (k := nI 0) thC_0 (fun _ => by
      rw [o19t, e0, ecl, cu_k (by decide), cu_k (by decide), cu_k (by decide), cu_k (by decide)])]
    exact hG _ _ _ _ _ _ _ h hD (Inv_Sc hI1 Sc_th) rfl rfl rfl (by omega) (by omega)
theorem op_7 (h : Lay x l n) (hD : l.1 0 1 = l.1 9 n.1) (hI : Inv n c) (hi : i + 6 < xN x) (hX : xN x < 2 ^ 31) (hG : Go x post (l.1 0 0) (l.1 18 0) (l.1 19 0) i a b) (ha : a + 13 ≤ mc) (hb : b + 148 ≤ ms) : WP x 167 644 [some (.ref (xB x)), some (.ref (l.1 0 0)), some (.ref (l.1 18 0)), some (.ref (l.1 19 0)), some (.int (nI i)), l5, l6] [] (Wo x l n c) mc ms post := by
  rw [hd_7 h hi hX]
  refine ⟨by omega, by omega, ?_⟩
  rw [wr_7 h]
  have hI0 := hI
  obtain ⟨i1, i2, i3, i4, i5, i6, i7, i8, i9, i10⟩ := hI0
  have hN := i2.2.2.2.1
  have hA := SzA_of i1.2.2.2.2.1 i1.1.2
  rw [s80 h i1]
  cases q : isc (ar x i 1)
  · rw [if_neg Bool.false_ne_true]
    rw [we_7_1, aftN_v, md_7 h hi hX, s130 h hN i2.1 i2.2.2.2.2.2.2.1, q, if_neg Bool.false_ne_true, aft_v, tl_7 h thC_0 no1]
    exact hG _ _ _ _ _ _ _ h hD (Inv_Sc hI Sc_th) rfl rfl rfl (by omega) (by omega)
  · rw [if_pos rfl]
    obtain ⟨k, hk, ek⟩ := isc_t q
    rw [wn_7 h]
    have hI1 := Inv_Sc hI (Sc_19 (f := upd (c 19 0) 0 (mtL (c 9) (c 10) (c 11) n.1 (ar x i 1))))
    have hM1 := hI1.2.1
    have e0 : mtL (c 9) (c 10) (c 11) n.1 (ar x i 1) = mnow (c 24 0) (c 25 0) (c 26 0) (c 27 0) n.1 (ar x i 1) := mtL_eq i3 hA i2.2.2.2.2.2.2.1 (fun r hr => by rw [ek]; exact left_c hI hr hk)
    rw [aftN_v, md_7 h hi hX, s130 h hN hM1.1 hM1.2.2.2.2.2.2.1, q, if_pos rfl, aft_v, tl_7 h (k := nI 0) thC_0 (fun _ => by
      rw [o19t, e0, cu_k (by decide), cu_k (by decide), cu_k (by decide), cu_k (by decide)])]
    exact hG _ _ _ _ _ _ _ h hD (Inv_Sc hI1 Sc_th) rfl rfl rfl (by omega) (by omega)
theorem op_8 (h : Lay x l n) (hD : l.1 0 1 = l.1 9 n.1) (hI : Inv n c) (hi : i + 6 < xN x) (hX : xN x < 2 ^ 31) (hG : Go x post (l.1 0 0) (l.1 18 0) (l.1 19 0) i a b) (ha : a + 13 ≤ mc) (hb : b + 148 ≤ ms) : WP x 167 700 [some (.ref (xB x)), some (.ref (l.1 0 0)), some (.ref (l.1 18 0)), some (.ref (l.1 19 0)), some (.int (nI i)), l5, l6] [] (Wo x l n c) mc ms post := by
  rw [hd_8 h hi hX]
  refine ⟨by omega, by omega, ?_⟩
  rw [wr_8 h]
  have hI0 := hI
  obtain ⟨i1, i2, i3, i4, i5, i6, i7, i8, i9, i10⟩ := hI0
  have hN := i2.2.2.2.1
  have hA := SzA_of i1.2.2.2.2.1 i1.1.2
  rw [s81 h i1]
  cases q : isc (ar x i 1)
  · rw [if_neg Bool.false_ne_true]
    rw [we_8_1, aftN_v, md_8 h hi hX, s131 h hN i2.1 i2.2.2.2.2.2.2.1, q, if_neg Bool.false_ne_true, aft_v, tl_8 h thC_0 no1]
    exact hG _ _ _ _ _ _ _ h hD (Inv_Sc hI Sc_th) rfl rfl rfl (by omega) (by omega)
  · rw [if_pos rfl]
    obtain ⟨k, hk, ek⟩ := isc_t q
    rw [wn_8 h]
    have hI1 := Inv_Sc hI (Sc_19 (f := upd (c 19 0) 0 (mtA (c 9) (c 10) n.1 (ar x i 1))))
    have hM1 := hI1.2.1
    have e0 : mtA (c 9) (c 10) n.1 (ar x i 1) = mnow (c 24 0) (c 25 0) (c 26 0) (c 27 0) n.1 (ar x i 1) := mtA_eq i3 hA i2.2.2.2.2.2.2.1
    rw [aftN_v, md_8 h hi hX, s131 h hN hM1.1 hM1.2.2.2.2.2.2.1, q, if_pos rfl, aft_v, tl_8 h (k := nI 0) thC_0 (fun _ => by
      rw [o19t, e0, cu_k (by decide), cu_k (by decide), cu_k (by decide), cu_k (by decide)])]
    exact hG _ _ _ _ _ _ _ h hD (Inv_Sc hI1 Sc_th) rfl rfl rfl (by omega) (by omega)
theorem op_9 (h : Lay x l n) (hD : l.1 0 1 = l.1 9 n.1) (hI : Inv n c) (hi : i + 6 < xN x) (hX : xN x < 2 ^ 31) (hG : Go x post (l.1 0 0) (l.1 18 0) (l.1 19 0) i a b) (ha : a + 13 ≤ mc) (hb : b + 148 ≤ ms) : WP x 167 756 [some (.ref (xB x)), some (.ref (l.1 0 0)), some (.ref (l.1 18 0)), some (.ref (l.1 19 0)), some (.int (nI i)), l5, l6] [] (Wo x l n c) mc ms post := by
  rw [hd_9 h hi hX]
  refine ⟨by omega, by omega, ?_⟩
  rw [wr_9 h]
  have hI0 := hI
  obtain ⟨i1, i2, i3, i4, i5, i6, i7, i8, i9, i10⟩ := hI0
  have hN := i2.2.2.2.2.2.1
  cases q : isc (ar x i 1)
  · refine s82n h q ?_
    rw [we_9_1, aftN_v, md_9 h hi hX, s132n h q, aft_v, tl_9 h thC_0 no1]
    exact hG _ _ _ _ _ _ _ h hD (Inv_Sc hI Sc_th) rfl rfl rfl (by omega) (by omega)
  · cases q1 : shOk (ar x i 2) (ar x i 3) (ar x i 4) (ar x i 5) (ar x i 6)
    · refine s82m h q q1 ?_
      rw [we_9_2, aftN_v, md_9 h hi hX, s132m h q q1, aft_v, tl_9 h thC_0 no2]
      exact hG _ _ _ _ _ _ _ h hD (Inv_Sc hI Sc_th) rfl rfl rfl (by omega) (by omega)
    · by_cases q2 : n.2.2.1 = 6
      · refine s82f h q q1 q2 ?_
        rw [we_9_3, aftN_v, md_9 h hi hX, s132f h i2 q q1 q2, aft_v, tl_9 h thC_0 no3]
        exact hG _ _ _ _ _ _ _ h hD (Inv_Sc hI Sc_th) rfl rfl rfl (by omega) (by omega)
      · have h6 : n.2.2.1 < 6 := by omega
        refine s82 h hD i1 q q1 h6 (fun l' hl' hE hD' => ?_)
        obtain ⟨k, hk, ek⟩ := isc_t q
        obtain ⟨X, Y, Z, W, g, hx, hy, hz, hw, hg, eX, eY, eZ, eW, eg⟩ := sh_n q1
        have hP := P_sheet hI h6 (show k ≤ 3 by omega) hx hy hz hw hg
        rw [← ek, ← eX, ← eY, ← eZ, ← eW, ← eg] at hP
        rw [← hE.1, ← hE.2.1, ← hE.2.2] at hG ⊢
        have g22 : ∀ f, shC c n.2.2.1 f 18 = c 18 := fun f => by
          funext i'
          exact shC_n (by omega) (by omega)
        rw [wn_9 hl', aftN_v, md_9 hl' hi hX, s132 hl' (N := n.2.2.1) (by rw [cu_k (by decide), g22]; exact i2.2.2.1) q q1 h6, aft_v, tl_9 hl' (k := nI 0) (by unfold stM; rw [cu_s, upd_n (by decide), upd_s]) (fun _ => by
          unfold stM
          rw [cu_k (by decide), cu_k (by decide), cu_k (by decide), cu_k (by decide), cu_k (by decide), cu_k (by decide), cu_k (by decide), thC_n (by decide), o19])]
        exact hG _ _ _ _ _ _ _ hl' hD' (Inv_Sc hP (Sc_st Sc_19)) rfl rfl rfl (by omega) (by omega)
theorem op_10 (h : Lay x l n) (hD : l.1 0 1 = l.1 9 n.1) (hI : Inv n c) (hi : i + 6 < xN x) (hX : xN x < 2 ^ 31) (hG : Go x post (l.1 0 0) (l.1 18 0) (l.1 19 0) i a b) (ha : a + 13 ≤ mc) (hb : b + 148 ≤ ms) : WP x 167 874 [some (.ref (xB x)), some (.ref (l.1 0 0)), some (.ref (l.1 18 0)), some (.ref (l.1 19 0)), some (.int (nI i)), l5, l6] [] (Wo x l n c) mc ms post := by
  rw [hd_10 h hi hX]
  refine ⟨by omega, by omega, ?_⟩
  rw [wr_10 h]
  have hI0 := hI
  obtain ⟨i1, i2, i3, i4, i5, i6, i7, i8, i9, i10⟩ := hI0
  have hN := i2.2.2.2.2.2.1
  have hN2 := i2.2.2.2.2.1
  rw [s83 h i1]
  by_cases q : inN n.2.2.1 (ar x i 1) = true
  · rw [if_pos q]
    by_cases q2 : inN n.2.1 (ar x i 2) = true
    · rw [if_pos q2]
      obtain ⟨s, hs0, es⟩ := inN_t (by omega) q
      obtain ⟨m, hm, em⟩ := inN_t (by omega) q2
      have ecl : (ar x i 1).toNatClampNeg = s := by rw [es, nI_clamp (by omega)]
      have ecm : (ar x i 2).toNatClampNeg = m := by rw [em, nI_clamp (by omega)]
      rw [ecl, ecm, wn_10 h]
      have sc1 : Sc c (cu (cL c 0 (lbls n c s)) 19 0 (upd (cL c 0 (lbls n c s) 19 0) 0 ((lbls n c s).2 m))) := Sc_t (d := cL c 0 (lbls n c s)) Sc_cL Sc_19
      have hI1 := Inv_Sc hI sc1
      have ag := (lb_Ag hI sc1 hs0).1
      rw [aftN_v, md_10 h hi hX, s140 h hI1.2.1, q, q2, ecl, ecm, Bool.and_self, if_pos rfl, aft_v, tl_10 h (k := nI 0) (by rw [cM_n (by decide) (by decide), thC_0]) (fun _ => by
        rw [cM_n (by decide) (by decide), o19t]
        exact (ag m (by omega)).2)]
      exact hG _ _ _ _ _ _ _ h hD (Inv_Sc hI1 (Sc_t Sc_th Sc_cM)) rfl rfl rfl (by omega) (by omega)
    · rw [if_neg q2]
      have q2' : inN n.2.1 (ar x i 2) = false := by cases e : inN n.2.1 (ar x i 2) <;> simp_all
      rw [we_10_1, aftN_v, md_10 h hi hX, s140 h i2, q2', Bool.and_false, if_neg Bool.false_ne_true, aft_v, tl_10 h thC_0 no1]
      exact hG _ _ _ _ _ _ _ h hD (Inv_Sc hI Sc_th) rfl rfl rfl (by omega) (by omega)
  · have q' : inN n.2.2.1 (ar x i 1) = false := by cases e : inN n.2.2.1 (ar x i 1) <;> simp_all
    rw [if_neg q]
    rw [we_10_1, aftN_v, md_10 h hi hX, s140 h i2, q', Bool.false_and, if_neg Bool.false_ne_true, aft_v, tl_10 h thC_0 no1]
    exact hG _ _ _ _ _ _ _ h hD (Inv_Sc hI Sc_th) rfl rfl rfl (by omega) (by omega)
theorem op_11 (h : Lay x l n) (hD : l.1 0 1 = l.1 9 n.1) (hI : Inv n c) (hi : i + 6 < xN x) (hX : xN x < 2 ^ 31) (hG : Go x post (l.1 0 0) (l.1 18 0) (l.1 19 0) i a b) (ha : a + 13 ≤ mc) (hb : b + 148 ≤ ms) : WP x 167 942 [some (.ref (xB x)), some (.ref (l.1 0 0)), some (.ref (l.1 18 0)), some (.ref (l.1 19 0)), some (.int (nI i)), l5, l6] [] (Wo x l n c) mc ms post := by
  rw [hd_11 h hi hX]
  refine ⟨by omega, by omega, ?_⟩
  rw [wr_11 h]
  have hI0 := hI
  obtain ⟨i1, i2, i3, i4, i5, i6, i7, i8, i9, i10⟩ := hI0
  have hN := i2.2.2.2.2.2.1
  have hN2 := i2.2.2.2.2.1
  rw [s84 h i1]
  by_cases q : inN n.2.2.1 (ar x i 1) = true
  · rw [if_pos q]
    by_cases q2 : inP (ar x i 2) (ar x i 3) = true
    · rw [if_pos q2]
      obtain ⟨s, hs0, es⟩ := inN_t (by omega) q
      obtain ⟨X, Y, hx, hy, eX, eY⟩ := inP_n q2
      have ecl : (ar x i 1).toNatClampNeg = s := by rw [es, nI_clamp (by omega)]
      rw [ecl, wn_11 h]
      have sc1 : Sc c (cu (cL c 0 (lbls n c s)) 19 0 (upd (cL c 0 (lbls n c s) 19 0) 0 (ltF (tkB (lbls n c s).1 (c 12) (plV (ar x i 2) (ar x i 3)) (nI 1)) n.2.1 0))) := Sc_t (d := cL c 0 (lbls n c s)) Sc_cL Sc_19
      have hI1 := Inv_Sc hI sc1
      have e0 : ltF (tkB (lbls n c s).1 (c 12) (plV (ar x i 2) (ar x i 3)) (nI 1)) n.2.1 0 = laF (fun o => takM ((lblM n (cu (cL c 0 (lbls n c s)) 19 0 (upd (cL c 0 (lbls n c s) 19 0) 0 (ltF (tkB (lbls n c s).1 (c 12) (plV (ar x i 2) (ar x i 3)) (nI 1)) n.2.1 0))) s).1 o) (c 31 0 o) (ar x i 2) (ar x i 3)) n.2.1 0 (-1) := at_c2 hI sc1 hs0 q2
      have k31 : cu (cL c 0 (lbls n c s)) 19 0 (upd (cL c 0 (lbls n c s) 19 0) 0 (ltF (tkB (lbls n c s).1 (c 12) (plV (ar x i 2) (ar x i 3)) (nI 1)) n.2.1 0)) 31 = c 31 := Sc_k sc1 (by decide)
      rw [aftN_v, md_11 h hi hX, s141 h hI1.2.1, q, ecl, if_pos rfl, if_pos q2, k31, ← e0, aft_v, tl_11 h (k := nI 0) (by rw [cM_n (by decide) (by decide), thC_0]) (fun _ => by
        rw [cM_n (by decide) (by decide), o19t])]
      exact hG _ _ _ _ _ _ _ h hD (Inv_Sc hI1 (Sc_t Sc_th Sc_cM)) rfl rfl rfl (by omega) (by omega)
    · rw [if_neg q2]
      rw [we_11_2, aftN_v, md_11 h hi hX, s141 h i2, if_pos q, if_neg q2, aft_v, tl_11 h thC_0 no2]
      exact hG _ _ _ _ _ _ _ h hD (Inv_Sc hI Sc_th) rfl rfl rfl (by omega) (by omega)
  · rw [if_neg q]
    rw [we_11_1, aftN_v, md_11 h hi hX, s141 h i2, if_neg q, aft_v, tl_11 h thC_0 no1]
    exact hG _ _ _ _ _ _ _ h hD (Inv_Sc hI Sc_th) rfl rfl rfl (by omega) (by omega)
theorem op_12 (h : Lay x l n) (hD : l.1 0 1 = l.1 9 n.1) (hI : Inv n c) (hi : i + 6 < xN x) (hX : xN x < 2 ^ 31) (hG : Go x post (l.1 0 0) (l.1 18 0) (l.1 19 0) i a b) (ha : a + 13 ≤ mc) (hb : b + 148 ≤ ms) : WP x 167 1022 [some (.ref (xB x)), some (.ref (l.1 0 0)), some (.ref (l.1 18 0)), some (.ref (l.1 19 0)), some (.int (nI i)), l5, l6] [] (Wo x l n c) mc ms post := by
  rw [hd_12 h hi hX]
  refine ⟨by omega, by omega, ?_⟩
  rw [wr_12 h]
  have hI0 := hI
  obtain ⟨i1, i2, i3, i4, i5, i6, i7, i8, i9, i10⟩ := hI0
  have hN := i2.2.2.2.2.2.1
  rw [s85 h i1]
  by_cases q : inN n.2.2.1 (ar x i 1) = true
  · rw [if_pos q]
    have qq := q
    obtain ⟨s, hs0, es⟩ := inN_t (by omega) q
    have ecl : (ar x i 1).toNatClampNeg = s := by rw [es, nI_clamp (by omega)]
    rw [ecl]
    by_cases q2 : inR (nI 1) (ar x i 2) (nI 100) = true
    · rw [if_pos q2]
      have ecop : ∀ d : Cc, errM n d s = errC n c s → erC n d s 40 0 s = c 40 0 s → hadM n d s + ar x i 2 = copC n c s (ar x i 2) := fun d h1 h2 => by
        unfold hadM copC
        rw [h1, h2, (i6 s hs0).2.2.2]
        by_cases z : errC n c s = 0
        · rw [if_pos z, if_pos (by rw [errC_0]; exact z)]
        · rw [if_neg z, if_neg (by rw [errC_0]; exact z), nI_0, Int32.zero_add]
      by_cases q3 : copC n c s (ar x i 2) ≤ nI 1000
      · rw [if_pos q3, wn_12 h]
        have hP := P_print hI hs0 (v := copC n c s (ar x i 2)) (g := upd (keepC (drw n c s) s (copC n c s (ar x i 2)) 19 0) 0 (copC n c s (ar x i 2)))
        have mk : ∀ k, 18 ≤ k → k ≠ 19 → cu (keepC (drw n c s) s (copC n c s (ar x i 2))) 19 0 (upd (keepC (drw n c s) s (copC n c s (ar x i 2)) 19 0) 0 (copC n c s (ar x i 2))) k = drw n c s k := fun k hk h9 => by
          funext i'
          rw [cu_k h9, kC_o (by omega)]
        have h19 : cu (keepC (drw n c s) s (copC n c s (ar x i 2))) 19 0 (upd (keepC (drw n c s) s (copC n c s (ar x i 2)) 19 0) 0 (copC n c s (ar x i 2))) 19 0 0 = copC n c s (ar x i 2) := o19
        generalize hK : cu (keepC (drw n c s) s (copC n c s (ar x i 2))) 19 0 (upd (keepC (drw n c s) s (copC n c s (ar x i 2)) 19 0) 0 (copC n c s (ar x i 2))) = c1 at hP mk h19 ⊢
        have hMd : MI n (drw n c s) := (Inv_Sc hI Sc_dr).2.1
        have hM1 : MI n c1 := MI_e hMd (by rw [mk 18 (by decide) (by decide)]) (by rw [mk 18 (by decide) (by decide)]) (by rw [mk 18 (by decide) (by decide)]) (mk _ (by decide) (by decide)) (mk _ (by decide) (by decide)) (mk _ (by decide) (by decide)) (mk _ (by decide) (by decide)) (mk _ (by decide) (by decide)) (mk _ (by decide) (by decide)) (mk _ (by decide) (by decide))
        have e1 : errM n c1 s = errC n c s := (errM_me (c := drw n c s) (fun k hk => mk k (by omega) (by omega))).trans (err_eq hI Sc_dr hs0).symm
        have e2 : erC n c1 s 40 0 s = c 40 0 s := by
          rw [Sc_k (Sc_er (n := n) (c := c1) (s := s)) (k := 40) (by decide), mk 40 (by decide) (by decide), drw_n (by decide) (by decide) (by decide)]
        have e3 := ecop c1 e1 e2
        rw [aftN_v, md_12 h hi hX, es, s147 h hM1 hs0 q2, e3, if_pos q3, aft_v, tl_12 h (k := nI 0) pr_18 (fun _ => by rw [pr_19, h19])]
        exact hG _ _ _ _ _ _ _ h hD hP rfl rfl rfl (by omega) (by omega)
      · rw [if_neg q3]
        have hI1 : Inv n (drw n c s) := Inv_Sc hI Sc_dr
        have e3 := ecop (drw n c s) (err_eq hI Sc_dr hs0).symm (by
          rw [Sc_k (Sc_er (n := n) (c := drw n c s) (s := s)) (k := 40) (by decide), drw_n (by decide) (by decide) (by decide)])
        rw [we_12_3, aftN_v, md_12 h hi hX, es, s147 h hI1.2.1 hs0 q2, e3, if_neg q3, aft_v, tl_12 h thC_0 no3]
        exact hG _ _ _ _ _ _ _ h hD (Inv_Sc hI1 (Sc_t Sc_er Sc_th)) rfl rfl rfl (by omega) (by omega)
    · rw [if_neg q2]
      have q2' : inR (nI 1) (ar x i 2) (nI 100) = false := by cases e : inR (nI 1) (ar x i 2) (nI 100) <;> simp_all
      rw [we_12_2, aftN_v, md_12 h hi hX, s147m h i2 qq q2', aft_v, tl_12 h thC_0 no2]
      exact hG _ _ _ _ _ _ _ h hD (Inv_Sc hI Sc_th) rfl rfl rfl (by omega) (by omega)
  · have q' : inN n.2.2.1 (ar x i 1) = false := by cases e : inN n.2.2.1 (ar x i 1) <;> simp_all
    rw [if_neg q]
    rw [we_12_1, aftN_v, md_12 h hi hX, s147n h i2 q', aft_v, tl_12 h thC_0 no1]
    exact hG _ _ _ _ _ _ _ h hD (Inv_Sc hI Sc_th) rfl rfl rfl (by omega) (by omega)
theorem op_13 (h : Lay x l n) (hD : l.1 0 1 = l.1 9 n.1) (hI : Inv n c) (hi : i + 6 < xN x) (hX : xN x < 2 ^ 31) (hG : Go x post (l.1 0 0) (l.1 18 0) (l.1 19 0) i a b) (ha : a + 13 ≤ mc) (hb : b + 148 ≤ ms) : WP x 167 1090 [some (.ref (xB x)), some (.ref (l.1 0 0)), some (.ref (l.1 18 0)), some (.ref (l.1 19 0)), some (.int (nI i)), l5, l6] [] (Wo x l n c) mc ms post := by
  rw [hd_13 h hi hX]
  refine ⟨by omega, by omega, ?_⟩
  rw [wr_13 h]
  have hI0 := hI
  obtain ⟨i1, i2, i3, i4, i5, i6, i7, i8, i9, i10⟩ := hI0
  have hN := i2.2.2.2.2.2.1
  rw [s86 h i1]
  by_cases q : inN n.2.2.1 (ar x i 1) = true
  · rw [if_pos q]
    have qq := q
    obtain ⟨s, hs0, es⟩ := inN_t (by omega) q
    have ecl : (ar x i 1).toNatClampNeg = s := by rw [es, nI_clamp (by omega)]
    have e8 := (i6 s hs0).2.2.2
    rw [ecl]
    by_cases q2 : inR (nI 1) (ar x i 2) (nI 1000) = true
    · rw [if_pos q2]
      by_cases q3 : c 13 s 8 < ar x i 2
      · rw [if_pos q3]
        rw [e8] at q3
        rw [we_13_3, aftN_v, md_13 h hi hX, es, s148 h i2 hs0 q2, if_pos q3, aft_v, tl_13 h thC_0 no3]
        exact hG _ _ _ _ _ _ _ h hD (Inv_Sc hI Sc_th) rfl rfl rfl (by omega) (by omega)
      · rw [if_neg q3, wn_13 h]
        rw [e8] at q3
        have hP := P_sell hI hs0 (m := ar x i 2)
        have sc1 : Sc (soldC c s (ar x i 2)) (cu (drw n (soldC c s (ar x i 2)) s) 19 0 (upd (drw n (soldC c s (ar x i 2)) s 19 0) 0 (errC n (soldC c s (ar x i 2)) s))) := Sc_t (d := drw n (soldC c s (ar x i 2)) s) Sc_dr Sc_19
        have e2 : errC n (soldC c s (ar x i 2)) s = errM n (slM (cu (drw n (soldC c s (ar x i 2)) s) 19 0 (upd (drw n (soldC c s (ar x i 2)) s 19 0) 0 (errC n (soldC c s (ar x i 2)) s))) s (ar x i 2)) s := by
          have ec : errC n (soldC c s (ar x i 2)) s = errC n (slM (soldC c s (ar x i 2)) s (ar x i 2)) s := (err_cl (fun k hk => by
            unfold slM thC
            funext i'
            rw [cu_k (by omega), cu_k (by omega)])).symm
          exact ec.trans (err_eq hP (Sc_slM sc1) hs0)
        generalize hC1 : cu (drw n (soldC c s (ar x i 2)) s) 19 0 (upd (drw n (soldC c s (ar x i 2)) s 19 0) 0 (errC n (soldC c s (ar x i 2)) s)) = c1 at sc1 e2 ⊢
        have g : ∀ k, k ≠ 13 → soldC c s (ar x i 2) k = c k := fun k hk => by funext i'; exact cu_k hk
        have c1k : ∀ k, (k ≠ 13 ∧ k ≠ 15 ∧ k ≠ 16 ∧ k ≠ 17 ∧ k ≠ 18 ∧ k ≠ 46 ∧ k ≠ 47 ∧ k ≠ 19) → c1 k = c k := fun k hk => (Sc_k sc1 (by omega)).trans (g k (by omega))
        have c118 : ∀ j, j ≠ 0 → c1 18 0 j = c 18 0 j := fun j hj => (sc1.2.2 j hj).trans (by rw [g 18 (by decide)])
        have hM1 : MI n c1 := MI_e i2 (c118 _ (by decide)) (c118 _ (by decide)) (c118 _ (by decide)) (c1k _ (by decide)) (c1k _ (by decide)) (c1k _ (by decide)) (c1k _ (by decide)) (c1k _ (by decide)) (c1k _ (by decide)) (c1k _ (by decide))
        have h19 : c1 19 0 0 = errC n (soldC c s (ar x i 2)) s := by rw [← hC1, o19]
        rw [aftN_v, md_13 h hi hX, es, s148 h hM1 hs0 q2, c1k 40 (by decide), if_neg q3, aft_v, tl_13 h (k := nI 0) (by
          rw [er_18]
          exact sl_18 (c := c1) (k := s) (a := ar x i 2)) (fun _ => by
          rw [← e2, ← h19, er_19]
          rw [sl_19])]
        exact hG _ _ _ _ _ _ _ h hD (Inv_Sc hP (Sc_t (Sc_slM sc1) Sc_er)) rfl rfl rfl (by omega) (by omega)
    · rw [if_neg q2]
      have q2' : inR (nI 1) (ar x i 2) (nI 1000) = false := by cases e : inR (nI 1) (ar x i 2) (nI 1000) <;> simp_all
      rw [we_13_2, aftN_v, md_13 h hi hX, s148m h i2 qq q2', aft_v, tl_13 h thC_0 no2]
      exact hG _ _ _ _ _ _ _ h hD (Inv_Sc hI Sc_th) rfl rfl rfl (by omega) (by omega)
  · have q' : inN n.2.2.1 (ar x i 1) = false := by cases e : inN n.2.2.1 (ar x i 1) <;> simp_all
    rw [if_neg q]
    rw [we_13_1, aftN_v, md_13 h hi hX, s148n h i2 q', aft_v, tl_13 h thC_0 no1]
    exact hG _ _ _ _ _ _ _ h hD (Inv_Sc hI Sc_th) rfl rfl rfl (by omega) (by omega)
theorem op_14 (h : Lay x l n) (hD : l.1 0 1 = l.1 9 n.1) (hI : Inv n c) (hi : i + 6 < xN x) (hX : xN x < 2 ^ 31) (hG : Go x post (l.1 0 0) (l.1 18 0) (l.1 19 0) i a b) (ha : a + 13 ≤ mc) (hb : b + 148 ≤ ms) : WP x 167 1158 [some (.ref (xB x)), some (.ref (l.1 0 0)), some (.ref (l.1 18 0)), some (.ref (l.1 19 0)), some (.int (nI i)), l5, l6] [] (Wo x l n c) mc ms post := by
  rw [hd_14 h hi hX]
  refine ⟨by omega, by omega, ?_⟩
  rw [wr_14 h]
  have hI0 := hI
  obtain ⟨i1, i2, i3, i4, i5, i6, i7, i8, i9, i10⟩ := hI0
  have hN := i2.2.2.2.2.2.1
  rw [s87 h i1]
  by_cases q : inN n.2.2.1 (ar x i 1) = true
  · rw [if_pos q]
    obtain ⟨s, hs0, es⟩ := inN_t (by omega) q
    have ecl : (ar x i 1).toNatClampNeg = s := by rw [es, nI_clamp (by omega)]
    rw [ecl, wn_14 h]
    have hI1 := Inv_Sc hI (Sc_19 (f := upd (c 19 0) 0 (c 13 s 8)))
    rw [aftN_v, md_14 h hi hX, s149 h hI1.2.1, if_pos q, ecl, aft_v, tl_14 h (k := nI 0) thC_0 (fun _ => by
      rw [o19t, cu_k (by decide), (i6 s hs0).2.2.2])]
    exact hG _ _ _ _ _ _ _ h hD (Inv_Sc hI1 Sc_th) rfl rfl rfl (by omega) (by omega)
  · rw [if_neg q]
    rw [we_14_1, aftN_v, md_14 h hi hX, s149 h i2, if_neg q, aft_v, tl_14 h thC_0 no1]
    exact hG _ _ _ _ _ _ _ h hD (Inv_Sc hI Sc_th) rfl rfl rfl (by omega) (by omega)
theorem op_15 (h : Lay x l n) (hD : l.1 0 1 = l.1 9 n.1) (hI : Inv n c) (hi : i + 6 < xN x) (hX : xN x < 2 ^ 31) (hG : Go x post (l.1 0 0) (l.1 18 0) (l.1 19 0) i a b) (ha : a + 13 ≤ mc) (hb : b + 148 ≤ ms) : WP x 167 1214 [some (.ref (xB x)), some (.ref (l.1 0 0)), some (.ref (l.1 18 0)), some (.ref (l.1 19 0)), some (.int (nI i)), l5, l6] [] (Wo x l n c) mc ms post := by
  rw [hd_15 h hi hX]
  refine ⟨by omega, by omega, ?_⟩
  rw [wr_15 h]
  have hI0 := hI
  obtain ⟨i1, i2, i3, i4, i5, i6, i7, i8, i9, i10⟩ := hI0
  have hN := i2.2.2.2.2.2.1
  rw [s88 h i1]
  by_cases q : inN n.2.2.1 (ar x i 1) = true
  · rw [if_pos q]
    obtain ⟨s, hs0, es⟩ := inN_t (by omega) q
    have ecl : (ar x i 1).toNatClampNeg = s := by rw [es, nI_clamp (by omega)]
    rw [ecl, wn_15 h]
    have sc1 : Sc c (cu (drw n c s) 19 0 (upd (drw n c s 19 0) 0 (errC n c s))) := Sc_t (d := drw n c s) Sc_dr Sc_19
    have hI1 := Inv_Sc hI sc1
    have e0 : errC n c s = errM n (thC (cu (drw n c s) 19 0 (upd (drw n c s 19 0) 0 (errC n c s))) (nI 0)) s := err_eq hI (Sc_t sc1 Sc_th) hs0
    rw [aftN_v, md_15 h hi hX, s150 h hI1.2.1, if_pos q, ecl, ← e0, aft_v, tl_15 h (k := nI 0) (by rw [er_18, thC_0]) (fun _ => by
      rw [er_19, o19t])]
    exact hG _ _ _ _ _ _ _ h hD (Inv_Sc hI1 (Sc_t Sc_th Sc_er)) rfl rfl rfl (by omega) (by omega)
  · rw [if_neg q]
    rw [we_15_1, aftN_v, md_15 h hi hX, s150 h i2, if_neg q, aft_v, tl_15 h thC_0 no1]
    exact hG _ _ _ _ _ _ _ h hD (Inv_Sc hI Sc_th) rfl rfl rfl (by omega) (by omega)
end
