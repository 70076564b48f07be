section
variable {x : Cx} {l l' : Ly} {n n' : Nn} {c c' : Cc} {B B' : Nat → Nat} {k i o : Nat} {w : Wd} {K : Po}
theorem lset_1 : (lset l k i o).1 k i = o := if_pos ⟨rfl, rfl⟩
theorem lset_n {k' i' : Nat} (h : ¬ (k' = k ∧ i' = i)) : (lset l k i o).1 k' i' = l.1 k' i' := if_neg h
theorem ct_rd {N : Nat} (hl : ∀ k i, k ≠ 3 → l'.1 k i = l.1 k i) (h2 : k ≠ 2) (h3 : k ≠ 3) : ct x l' (N, n.2) c k i = ct x l n c k i := by
  unfold ct
  split <;> first | exact absurd rfl h2 | exact absurd rfl h3 | simp [hl]
theorem bd_rd {N : Nat} (h3 : k ≠ 3) (h9 : k ≠ 3) : bd (N, n.2) k = bd n k := by
  unfold bd
  split <;> first | rfl | exact absurd rfl h3
theorem fin_rd {N e : Nat} {w' : Wd} (h : Lay x l n) (hN : n.1 = N) (h' : Lay x l' (N + 1, n.2)) (hl : ∀ k i, k ≠ 3 → l'.1 k i = l.1 k i) (he : l'.1 3 0 = e) (he' : l.2 e = none ∨ n.1 ≠ 0 ∧ e = l.1 3 0) (ht : ∀ b, l'.2 b = none → l.2 b = none ∧ b ≠ e)
    (w1 : w' (l.1 2 0) = some (eO 0 [.int (nI (N + 1)), .ref e, .int (nI (N + 1))])) (w2 : w' e = some (eQ x 10 (va_up (fun j => if j < N then some (l.1 9 j) else none) N (some (l.1 9 N))))) (w4 : ∀ b, b ≠ l.1 2 0 → b ≠ e → w' b = Wo x l n c b) : w' = Wo x l' (N + 1, n.2) c := by
  refine Wo_fin h' (fun k i hi => ?_) (fun b hb => ?_)
  · by_cases q3 : k = 3
    · subst q3
      have : i = 0 := by
        have hi' : i < (if N + 1 = 0 then 0 else 1) := hi
        rw [if_neg (by omega)] at hi'
        omega
      subst this
      rw [he, w2]
      refine congrArg some (congrArg (eQ x 10) ?_)
      exact el_nm (fun j hj => hl 9 j (by decide)) (hl 9 N (by decide))
    · have hi2 : i < bd n k := by rw [← bd_rd (N := N + 1) q3 q3]; exact hi
      by_cases q2 : k = 2
      · subst q2
        have : i = 0 := by
          have hi' : i < 1 := hi2
          omega
        subst this
        rw [hl 2 0 (by decide), w1]
        unfold ct
        simp [he]
      · have t := h.1 k i hi2
        rw [hl k i q3, w4, Wo_get h hi2, ct_rd hl q2 q3]
        · intro z
          rw [z, h.1 2 0 (show 0 < 1 by decide)] at t
          simp only [Option.some.injEq, Prod.mk.injEq] at t
          omega
        · rintro rfl
          rcases he' with z | ⟨z, z2⟩
          · rw [z] at t; cases t
          · rw [z2, h.1 3 0 (show 0 < (if n.1 = 0 then 0 else 1) by rw [if_neg z]; decide)] at t
            simp only [Option.some.injEq, Prod.mk.injEq] at t
            omega
  · obtain ⟨t1, t2⟩ := ht b hb
    rw [w4 b ?_ t2, Wo_no t1]
    intro z
    rw [z, h.1 2 0 (show 0 < 1 by decide)] at t1
    cases t1
theorem s62w (h : Lay x l n) (hN : n.1 < 8) (hm : n.1 < n.2.2.2) (hK : ∀ l' : Ly, Lay x l' (n.1 + 1, n.2) → (∀ k i, k ≠ 3 → l'.1 k i = l.1 k i) → K (.inl none) (Wo x l' (n.1 + 1, n.2) c)) : CL x 62 [.ref (l.1 1 0), .ref (l.1 9 n.1)] (Wo x l n c) K := by
  have hr : qwK (Wo x l n c (l.1 9 n.1)) 4 ∨ qwK (Wo x l n c (l.1 9 n.1)) 1 ∨ qwK (Wo x l n c (l.1 9 n.1)) 6 := Or.inl (of_eq_true (k_9 h hm))
  have n92 := ad_ne h (k := 9) (i := n.1) (k' := 2) (i' := 0) hm (show 0 < 1 by decide) (Or.inl (by decide))
  rw [CL_62]
  simp only [t_62_0, t_62_1, t_62_4, t_62_5, t_62_8, t_62_9, decide_true, decide_false, Bool.not_true, Bool.not_false, Nat.reduceLeDiff, Nat.reduceSub, z0_t, z1_f, z1_t, true_or, or_true,  if_true, if_false, Bool.false_eq_true, aft_v, aft_n, aftN_v, aftN_n, qwV_s, qwV_0, bI_if, bI_ok, bI_ok0, bI_ok1, true_and, f_1_0 h, k_2 h]
  have g2 := g_2 h (c := c)
  by_cases q0 : n.1 = 0
  · rw [if_pos q0, q0] at g2
    refine s10b g2 (Wo_E h) hr n92 (fun e w' he w1 w2 w3 => ?_)
    have te := Wo_fr he
    have hL1 := LayB_put h (o := e) (k := 3) (i := 0) te he.2.1 he.2.2 (by simp [bd, q0])
    have hL : Lay x (lput l 3 0 e) (n.1 + 1, n.2) := LayB_cg hL1 (fun k => by
      by_cases e1 : k = 3
      · subst e1; simp [bd, q0]
      · simp only [e1, if_false]
        exact (bd_rd e1 e1).symm)
    have fin := fin_rd (l' := lput l 3 0 e) (c := c) h rfl hL (e := e) (w' := w') (fun k i z1 => lput_n (fun z => z1 z.1)) lput_1 (Or.inl te) (fun b hb => by
      by_cases b1 : b = e
      · rw [b1, lput_t] at hb; cases hb
      · rw [lput_u b1] at hb
        exact ⟨hb, b1⟩) (by rw [w1, q0]) (by
        rw [w2, q0]
        rfl) w3
    have := hK _ hL (fun k i z1 => lput_n (fun z => z1 z.1))
    rw [fin]
    simp only [t_62_0, t_62_1, t_62_4, t_62_5, t_62_8, t_62_9, decide_true, decide_false, Bool.not_true, Bool.not_false, Nat.reduceLeDiff, Nat.reduceSub, z0_t, z1_f, z1_t, true_or, or_true,  if_true, if_false, Bool.false_eq_true, aft_v, aft_n, aftN_v, aftN_n, qwV_s, qwV_0, bI_if, bI_ok, bI_ok0, bI_ok1, true_and, this]
  · rw [if_neg q0] at g2
    have l3 : 0 < bd n 3 := (show 0 < (if n.1 = 0 then 0 else 1) by rw [if_neg q0]; decide)
    have e32 := ad_ne h (k := 3) (i := 0) (k' := 2) (i' := 0) l3 (show 0 < 1 by decide) (Or.inl (by decide))
    have e93 := ad_ne h (k := 9) (i := n.1) (k' := 3) (i' := 0) hm l3 (Or.inl (by decide))
    refine s10a g2 (g_3 h q0) hr (by omega) n92 e93 e32 (fun w' w1 w2 w3 => ?_)
    have hL : Lay x l (n.1 + 1, n.2) := LayB_cg h (fun k => by
      by_cases e1 : k = 3
      · subst e1; simp [bd, q0]
      · exact (bd_rd e1 e1).symm)
    have fin := fin_rd (l' := l) (c := c) h rfl hL (e := l.1 3 0) (w' := w') (fun k i z1 => rfl) rfl (Or.inr ⟨q0, rfl⟩) (fun b hb => by
      refine ⟨hb, fun z => ?_⟩
      rw [z, h.1 3 0 l3] at hb
      cases hb) w1 w2 w3
    have := hK _ hL (fun k i z1 => rfl)
    rw [fin]
    simp only [t_62_0, t_62_1, t_62_4, t_62_5, t_62_8, t_62_9, decide_true, decide_false, Bool.not_true, Bool.not_false, Nat.reduceLeDiff, Nat.reduceSub, z0_t, z1_f, z1_t, true_or, or_true,  if_true, if_false, Bool.false_eq_true, aft_v, aft_n, aftN_v, aftN_n, qwV_s, qwV_0, bI_if, bI_ok, bI_ok0, bI_ok1, true_and, this]
def zNf : Nat → Int32 := fun _ => nI 0
def rdC (c : Cc) (M : Nat) : Cc := cu (cu (cu c 9 M zNf) 10 M z0f) 11 M z0f
theorem rdC_n {M : Nat} (h1 : ¬ ((k = 9 ∨ k = 10 ∨ k = 11) ∧ i = M)) : rdC c M k i = c k i := by
  unfold rdC cu
  rw [if_neg (by omega), if_neg (by omega), if_neg (by omega)]
theorem ct_nr {N a b M : Nat} (hl : ∀ k i, ¬ ((k = 9 ∨ k = 10 ∨ k = 11) ∧ i = M) → ¬ (k = 0 ∧ i = 1) → l'.1 k i = l.1 k i) (hM : N ≤ M) (h0 : k ≠ 0) (h1 : ¬ ((k = 9 ∨ k = 10 ∨ k = 11) ∧ i = M)) : ct x l' (N, a, b, M + 1) (rdC c M) k i = ct x l (N, a, b, M) c k i := by
  have e : rdC c M k i = c k i := rdC_n h1
  by_cases e3 : k = 3
  · subst e3
    show eQ x 10 _ = eQ x 10 _
    refine congrArg (eQ x 10) ?_
    funext j
    show (if j < N then some (l'.1 9 j) else none) = (if j < N then some (l.1 9 j) else none)
    by_cases q : j < N
    · rw [if_pos q, if_pos q, hl 9 j (by omega) (by omega)]
    · rw [if_neg q, if_neg q]
  · unfold ct
    split <;> first | exact absurd rfl h0 | exact absurd rfl e3 | (simp at h1; simp [e, hl, h1])
theorem bd_nr {N a b M : Nat} (hi : i < bd (N, a, b, M + 1) k) (h1 : ¬ ((k = 9 ∨ k = 10 ∨ k = 11) ∧ i = M)) : i < bd (N, a, b, M) k := by
  revert hi
  unfold bd
  split <;> first | exact id | (simp at h1; intro hi; have hi' : i < M + 1 := hi; show i < M; omega)
theorem fin_nr {N a b M o o1 o2 : Nat} {w' : Wd} (h : Lay x l (N, a, b, M)) (hNM : N ≤ M) (h' : Lay x l' (N, a, b, M + 1)) (hl : ∀ k i, ¬ ((k = 9 ∨ k = 10 ∨ k = 11) ∧ i = M) → ¬ (k = 0 ∧ i = 1) → l'.1 k i = l.1 k i) (ho : l'.1 9 M = o) (ho1 : l'.1 10 M = o1) (ho2 : l'.1 11 M = o2) (hd : l'.1 0 1 = o) (ht : ∀ b, l'.2 b = none → l.2 b = none ∧ b ≠ o ∧ b ≠ o1 ∧ b ≠ o2) (hn : l.2 o = none ∧ l.2 o1 = none ∧ l.2 o2 = none)
    (w1 : w' (l.1 0 0) = some (eO 7 [.ref (l.1 1 0), .ref (l.1 4 0), .ref (l.1 7 0), .ref (l.1 14 0), .ref o])) (w2 : w' o = some (eO 4 [.ref o1, .ref o2, .int (nI 0), .int (nI 0)])) (w21 : w' o1 = some (eI x 8 z0f)) (w22 : w' o2 = some (eI x 4 z0f)) (w4 : ∀ d, d ≠ l.1 0 0 → d ≠ o → d ≠ o1 → d ≠ o2 → w' d = Wo x l (N, a, b, M) c d) : w' = Wo x l' (N, a, b, M + 1) (rdC c M) := by
  refine Wo_fin h' (fun k i hi => ?_) (fun d hd' => ?_)
  · by_cases q1 : (k = 9 ∨ k = 10 ∨ k = 11) ∧ i = M
    · obtain ⟨z, rfl⟩ := q1
      rcases z with rfl | rfl | rfl
      · rw [ho, w2]
        unfold ct rdC
        simp only [cu_s, cu_k (show 9 ≠ 10 by decide), cu_k (show 9 ≠ 11 by decide), ho1, ho2, zNf]
      · rw [ho1, w21]
        unfold ct rdC ml
        simp only [cu_s, cu_k (show 10 ≠ 11 by decide)]
      · rw [ho2, w22]
        unfold ct rdC ml
        simp only [cu_s]
    · have hi2 := bd_nr hi q1
      by_cases q0 : k = 0
      · subst q0
        have : i = 0 := by
          have hi' : i < 1 := hi2
          omega
        subst this
        rw [hl 0 0 (by omega) (by omega), w1]
        unfold ct
        simp [hl, hd]
      · have t := h.1 k i hi2
        have tn : ∀ z, l.2 z = none → l.1 k i ≠ z := fun z hz q => by
          rw [q, hz] at t
          cases t
        rw [hl k i q1 (by omega), w4 _ ?_ (tn _ hn.1) (tn _ hn.2.1) (tn _ hn.2.2), Wo_get h hi2, ct_nr hl hNM q0 q1]
        intro z
        rw [z, h.1 0 0 (show 0 < 1 by decide)] at t
        simp only [Option.some.injEq, Prod.mk.injEq] at t
        omega
  · obtain ⟨t1, t2, t3, t4⟩ := ht d hd'
    rw [w4 d ?_ t2 t3 t4, Wo_no t1]
    intro z
    rw [z, h.1 0 0 (show 0 < 1 by decide)] at t1
    cases t1
def roadC (n : Nn) (c : Cc) (rk : Int32) : Cc := rdC (genC (n.1 + 1, n.2) (cu c 9 n.1 (upd (c 9 n.1) 3 rk))) n.2.2.2
theorem s74 (h : Lay x l n) (hD : l.1 0 1 = l.1 9 n.1) (hI : CI n (c 9) (c 13)) {a : Int32} (h1 : inR (nI 0) a (nI 3) = true) (h2 : 2 ≤ szO (c 9) n.1) (h3 : n.1 < 8)
    (hK : ∀ l' : Ly, Lay x l' (n.1 + 1, n.2.1, n.2.2.1, n.2.2.2 + 1) → LyE l l' → l'.1 0 1 = l'.1 9 (n.1 + 1) → K (.inl (some (.int (nI n.1)))) (Wo x l' (n.1 + 1, n.2.1, n.2.2.1, n.2.2.2 + 1) (roadC n c a))) : CL x 74 [.ref (l.1 0 0), .int a] (Wo x l n c) K := by
  obtain ⟨hN, hN2, hN3, hM, hA, hB, hS⟩ := hI
  have hj1 : n.1 < n.2.2.2 := by omega
  have e := (hA n.1 hj1).1
  have hz8 := (hA n.1 hj1).2
  rw [CL_74]
  simp only [t_74_0, t_74_1, t_74_4, t_74_5, t_74_8, t_74_11, t_74_12, t_74_15, t_74_25, t_74_26, t_74_29, t_74_32, t_74_34, t_74_37, t_74_47, t_74_48, t_74_51, t_74_52, t_74_55, t_74_56, t_74_59, t_74_60, t_74_63, t_74_66, t_74_67, t_74_70, t_74_73, t_74_74, t_74_77, t_74_78, t_74_81, t_74_84, t_74_85, t_74_88, t_74_91, t_74_92, t_74_93, decide_true, decide_false, Bool.not_true, Bool.not_false, Nat.reduceLeDiff, Nat.reduceSub, z0_t, z1_f, z1_t, true_or, or_true,  if_true, if_false, Bool.false_eq_true, aft_v, aft_n, aftN_v, aftN_n, qwV_s, qwV_0, bI_if, bI_ok, bI_ok0, bI_ok1, true_and, k_0 h, k_1 h, k_2 h, k_4 h, k_5 h, k_7 h, s97, h1, f_0_4 h, hD, k_9 h hj1, s40 h hj1, e, if_pos (le_t h2 (show szO (c 9) n.1 < 2 ^ 31 by omega)), f_0_0 h, s60 h, if_pos (lt_t h3 (show 8 < 2 ^ 31 by decide)), s44 h hj1]
  refine s62w h h3 hj1 (fun l1 hl1 g1 => ?_)
  have z00 := g1 0 0 (by decide)
  have z1 := g1 1 0 (by decide)
  have hA1 : SzA n.2.2.2 (cu c 9 n.1 (upd (c 9 n.1) 3 a) 9) := fun i hi => by
    have q : cu c 9 n.1 (upd (c 9 n.1) 3 a) 9 i 2 = c 9 i 2 := by
      by_cases z : i = n.1
      · rw [z, cu_s, upd_n (by decide)]
      · rw [cu_i z]
    unfold szO
    rw [q]
    exact hA i hi
  have hB1 : SzB (n.1 + 1) (cu c 9 n.1 (upd (c 9 n.1) 3 a) 9) := fun i hi => by
    have q : cu c 9 n.1 (upd (c 9 n.1) 3 a) 9 i 2 = c 9 i 2 := by
      by_cases z : i = n.1
      · rw [z, cu_s, upd_n (by decide)]
      · rw [cu_i z]
    unfold szO
    rw [q]
    by_cases z : i = n.1
    · rw [z]; exact h2
    · exact hB i (by omega)
  have s63' := fun K => s63 (x := x) (c := cu c 9 n.1 (upd (c 9 n.1) 3 a)) (K := K) hl1 (show n.1 + 1 ≤ 8 ∧ n.1 + 1 ≤ n.2.2.2 by omega) hA1 hB1
  rw [← z00]
  simp only [t_74_66, t_74_67, t_74_70, t_74_73, t_74_74, t_74_77, t_74_78, t_74_81, t_74_84, t_74_85, t_74_88, t_74_91, t_74_92, t_74_93, decide_true, decide_false, Bool.not_true, Bool.not_false, Nat.reduceLeDiff, Nat.reduceSub, z0_t, z1_f, z1_t, true_or, or_true,  if_true, if_false, Bool.false_eq_true, aft_v, aft_n, aftN_v, aftN_n, qwV_s, qwV_0, bI_if, bI_ok, bI_ok0, bI_ok1, true_and, k_1 hl1, f_0_0 hl1, s63']
  intro o ho
  have to := Wo_fr ho
  rw [dfl_4]
  refine s39 (va_up_self _ _ _) (fun o1 o2 w' h1 h2' d1 w0 w1 w2 wb => ?_)
  obtain ⟨e1, h1⟩ := fr_up h1
  obtain ⟨e2, h2'⟩ := fr_up h2'
  have t1 := Wo_fr h1
  have t2 := Wo_fr h2'
  have ne : ∀ z, l1.2 z = none → l1.1 0 0 ≠ z := fun z hz e => by
    have := hl1.1 0 0 (show 0 < 1 by decide)
    rw [e, hz] at this
    cases this
  have w00 : w' (l1.1 0 0) = some (eO 7 [.ref (l1.1 1 0), .ref (l1.1 4 0), .ref (l1.1 7 0), .ref (l1.1 14 0), .ref (l1.1 0 1)]) := by
    rw [wb _ (ne o to) (ne o1 t1) (ne o2 t2), va_up_ne _ _ (ne o to)]
    exact g_0 hl1
  simp only [t_74_81, decide_true, decide_false, Bool.not_true, Bool.not_false, Nat.reduceLeDiff, Nat.reduceSub, z0_t, z1_f, z1_t, true_or, or_true,  if_true, if_false, Bool.false_eq_true, aft_v, aft_n, aftN_v, aftN_n, qwV_s, qwV_0, bI_if, bI_ok, bI_ok0, bI_ok1, true_and, w00, qwO_s, List.length_cons, List.length_nil, List.set_cons_zero, List.set_cons_succ, Nat.reduceAdd, Nat.reduceLT]
  have hL1 := LayB_put hl1 to ho.2.1 ho.2.2 (show n.2.2.2 = bd (n.1 + 1, n.2) 9 from rfl)
  have hL2 := LayB_put hL1 (k := 10) (i := n.2.2.2) (o := o1) (by rw [lput_u e1, t1]) h1.2.1 h1.2.2 (by simp [bd])
  have hL3 := LayB_put hL2 (k := 11) (i := n.2.2.2) (o := o2) (by rw [lput_u (Ne.symm d1), lput_u e2, t2]) h2'.2.1 h2'.2.2 (by simp [bd])
  have hL4 : Lay x (lput (lput (lput l1 9 n.2.2.2 o) 10 n.2.2.2 o1) 11 n.2.2.2 o2) (n.1 + 1, n.2.1, n.2.2.1, n.2.2.2 + 1) := LayB_cg hL3 (fun k => by
    by_cases e3 : k = 9
    · subst e3; simp [bd]
    · by_cases e4 : k = 10
      · subst e4; simp [bd]
      · by_cases e5 : k = 11
        · subst e5; simp [bd]
        · simp only [e3, e4, e5, if_false]
          unfold bd
          split <;> first | rfl | exact absurd rfl e3 | exact absurd rfl e4 | exact absurd rfl e5)
  have hL := LayB_set (k := 0) (i := 1) (o := o) hL4 (show ¬ 1 < 1 by decide)
  have hl9 : ∀ k i, ¬ ((k = 9 ∨ k = 10 ∨ k = 11) ∧ i = n.2.2.2) → ¬ (k = 0 ∧ i = 1) → (lset (lput (lput (lput l1 9 n.2.2.2 o) 10 n.2.2.2 o1) 11 n.2.2.2 o2) 0 1 o).1 k i = l1.1 k i := fun k i z1 z2 => by
    rw [lset_n z2, lput_n (by omega), lput_n (by omega), lput_n (by omega)]
  have fin := fin_nr (N := n.1 + 1) (a := n.2.1) (b := n.2.2.1) (M := n.2.2.2) (l' := lset (lput (lput (lput l1 9 n.2.2.2 o) 10 n.2.2.2 o1) 11 n.2.2.2 o2) 0 1 o) (c := genC (n.1 + 1, n.2) (cu c 9 n.1 (upd (c 9 n.1) 3 a))) (o := o) (o1 := o1) (o2 := o2) (w' := va_up w' (l1.1 0 0) (some (eO 7 [.ref (l1.1 1 0), .ref (l1.1 4 0), .ref (l1.1 7 0), .ref (l1.1 14 0), .ref o]))) hl1 (by omega) hL hl9
    (by rw [lset_n (by omega), lput_n (by omega), lput_n (by omega), lput_1]) (by rw [lset_n (by omega), lput_n (by omega), lput_1]) (by rw [lset_n (by omega), lput_1]) lset_1 (fun b hb => by
      have hb : (lput (lput (lput l1 9 n.2.2.2 o) 10 n.2.2.2 o1) 11 n.2.2.2 o2).2 b = none := hb
      by_cases b2 : b = o2
      · rw [b2, lput_t] at hb; cases hb
      · rw [lput_u b2] at hb
        by_cases b3 : b = o1
        · rw [b3, lput_t] at hb; cases hb
        · rw [lput_u b3] at hb
          by_cases b4 : b = o
          · rw [b4, lput_t] at hb; cases hb
          · rw [lput_u b4] at hb
            exact ⟨hb, b4, b3, b2⟩) ⟨to, t1, t2⟩ (va_up_self _ _ _) (by rw [va_up_ne _ _ (Ne.symm (ne o to)), w0]) (by rw [va_up_ne _ _ (Ne.symm (ne o1 t1)), w1]; rfl) (by rw [va_up_ne _ _ (Ne.symm (ne o2 t2)), w2]; rfl) (fun b b0 b1 b2 b3 => by rw [va_up_ne _ _ b0, wb b b1 b2 b3, va_up_ne _ _ b1]; rfl)
  have k0 : ∀ k i, k ≠ 3 → ¬ ((k = 9 ∨ k = 10 ∨ k = 11) ∧ i = n.2.2.2) → ¬ (k = 0 ∧ i = 1) → (lset (lput (lput (lput l1 9 n.2.2.2 o) 10 n.2.2.2 o1) 11 n.2.2.2 o2) 0 1 o).1 k i = l.1 k i := fun k i z0 z1 z2 => by rw [hl9 k i z1 z2, g1 k i z0]
  have := hK _ hL ⟨k0 0 0 (by decide) (by omega) (by omega), k0 18 0 (by decide) (by omega) (by omega), k0 19 0 (by decide) (by omega) (by omega), k0 20 0 (by decide) (by omega) (by omega), k0 21 0 (by decide) (by omega) (by omega)⟩ (by
    rw [lset_1, lset_n (by omega), lput_n (by omega), lput_n (by omega), ← hM, lput_1])
  rw [fin]
  rw [← hl9 0 0 (by omega) (by omega)]
  simp only [t_74_84, t_74_85, t_74_88, t_74_91, t_74_92, t_74_93, decide_true, decide_false, Bool.not_true, Bool.not_false, Nat.reduceLeDiff, Nat.reduceSub, z0_t, z1_f, z1_t, true_or, or_true,  if_true, if_false, Bool.false_eq_true, aft_v, aft_n, aftN_v, aftN_n, qwV_s, qwV_0, bI_if, bI_ok, bI_ok0, bI_ok1, true_and, f_0_0 hL, k_1 hL, s60 hL, pk_sub (show 1 ≤ n.1 + 1 by omega), Nat.add_sub_cancel]
  exact this
theorem s74n (h : Lay x l n) {a : Int32} (h1 : inR (nI 0) a (nI 3) = false) (hK : K (.inr 2) (Wo x l n c)) : CL x 74 [.ref (l.1 0 0), .int a] (Wo x l n c) K := by
  rw [CL_74]
  simp only [t_74_0, t_74_1, t_74_4, t_74_5, t_74_8, t_74_11, t_74_12, t_74_15, t_74_25, t_74_26, t_74_29, t_74_32, t_74_34, t_74_37, t_74_47, t_74_48, t_74_51, t_74_52, t_74_55, t_74_56, t_74_59, t_74_60, t_74_63, t_74_66, t_74_67, t_74_70, t_74_73, t_74_74, t_74_77, t_74_78, t_74_81, t_74_84, t_74_85, t_74_88, t_74_91, t_74_92, t_74_93, decide_true, decide_false, Bool.not_true, Bool.not_false, Nat.reduceLeDiff, Nat.reduceSub, z0_t, z1_f, z1_t, true_or, or_true,  if_true, if_false, Bool.false_eq_true, aft_v, aft_n, aftN_v, aftN_n, qwV_s, qwV_0, bI_if, bI_ok, bI_ok0, bI_ok1, true_and, s97, h1, aft_x mH_74, hK]
theorem s74f (h : Lay x l n) (hD : l.1 0 1 = l.1 9 n.1) (hI : CI n (c 9) (c 13)) {a : Int32} (h1 : inR (nI 0) a (nI 3) = true) (h2 : szO (c 9) n.1 < 2 ∨ n.1 = 8) (hK : K (.inr 3) (Wo x l n c)) : CL x 74 [.ref (l.1 0 0), .int a] (Wo x l n c) K := by
  obtain ⟨hN, hN2, hN3, hM, hA, hB, hS⟩ := hI
  have hj1 : n.1 < n.2.2.2 := by omega
  have e := (hA n.1 hj1).1
  have hz8 := (hA n.1 hj1).2
  rw [CL_74]
  by_cases q : szO (c 9) n.1 < 2
  · simp only [t_74_0, t_74_1, t_74_4, t_74_5, t_74_8, t_74_11, t_74_12, t_74_15, t_74_25, t_74_26, t_74_29, t_74_32, t_74_34, t_74_37, decide_true, decide_false, Bool.not_true, Bool.not_false, Nat.reduceLeDiff, Nat.reduceSub, z0_t, z1_f, z1_t, true_or, or_true,  if_true, if_false, Bool.false_eq_true, aft_v, aft_n, aftN_v, aftN_n, qwV_s, qwV_0, bI_if, bI_ok, bI_ok0, bI_ok1, true_and, k_0 h, k_1 h, k_2 h, k_4 h, k_5 h, k_7 h, s97, h1, f_0_4 h, hD, k_9 h hj1, s40 h hj1, e, if_neg (le_f q (show 2 < 2 ^ 31 by decide)), hK]
  · have h8 : n.1 = 8 := by omega
    simp only [t_74_0, t_74_1, t_74_4, t_74_5, t_74_8, t_74_11, t_74_12, t_74_15, t_74_25, t_74_26, t_74_29, t_74_32, t_74_34, t_74_37, decide_true, decide_false, Bool.not_true, Bool.not_false, Nat.reduceLeDiff, Nat.reduceSub, z0_t, z1_f, z1_t, true_or, or_true,  if_true, if_false, Bool.false_eq_true, aft_v, aft_n, aftN_v, aftN_n, qwV_s, qwV_0, bI_if, bI_ok, bI_ok0, bI_ok1, true_and, k_0 h, k_1 h, k_2 h, k_4 h, k_5 h, k_7 h, s97, h1, f_0_4 h, hD, k_9 h hj1, s40 h hj1, e, if_pos (le_t (show 2 ≤ szO (c 9) n.1 by omega) (show szO (c 9) n.1 < 2 ^ 31 by omega)), f_0_0 h, s60 h, if_neg (lt_f (show 8 ≤ n.1 by omega) (show n.1 < 2 ^ 31 by omega)), hK]
end
