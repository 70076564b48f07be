section
variable {x : Cx} {l l' : Ly} {n n' : Nn} {c c' : Cc} {B B' : Nat → Nat} {k i o : Nat} {w : Wd} {K : Po}
theorem s76 (h : Lay x l n) (hD : l.1 0 1 = l.1 9 n.1) (hI : CI n (c 9) (c 13)) {a b d e : Int32} (h1 : (inP a b && (inR (nI 1) d (nI 8) && inR (nI 0) e (nI 3))) = true) (h2 : n.2.1 < 10)
    (hK : ∀ l' : Ly, Lay x l' (n.1, n.2.1 + 1, n.2.2) → LyE l l' → l'.1 0 1 = l'.1 9 n.1 → K (.inl (some (.int (nI n.2.1)))) (Wo x l' (n.1, n.2.1 + 1, n.2.2) (cu c 12 n.2.1 (nmF d e a b)))) : CL x 76 [.ref (l.1 0 0), .int a, .int b, .int d, .int e] (Wo x l n c) K := by
  obtain ⟨q1, q2⟩ := (Bool.and_eq_true _ _).mp h1
  obtain ⟨q3, q4⟩ := (Bool.and_eq_true _ _).mp q2
  rw [CL_76]
  simp only [t_76_0, t_76_1, t_76_2, t_76_5, t_76_6, t_76_7, t_76_9, t_76_12, t_76_14, t_76_17, t_76_18, t_76_21, t_76_24, t_76_26, t_76_29, t_76_39, t_76_40, t_76_43, t_76_46, t_76_47, t_76_48, t_76_49, t_76_50, t_76_52, t_76_55, t_76_58, t_76_59, t_76_62, t_76_65, t_76_66, t_76_67, decide_true, decide_false, Bool.not_true, Bool.not_false, Nat.reduceLeDiff, Nat.reduceSub, z0_t, z1_f, z1_t, true_or, or_true,  if_true, if_false, Bool.false_eq_true, aft_v, aft_n, aftN_v, aftN_n, qwV_s, qwV_0, bI_if, bI_ok, bI_ok0, bI_ok1, true_and, k_0 h, k_1 h, k_2 h, k_4 h, k_5 h, k_7 h, s96, s97, s98, q1, q3, q4, f_0_1 h, s53 h, if_pos (lt_t h2 (show 10 < 2 ^ 31 by decide))]
  intro o ho
  have t0 := Wo_fr ho
  have n4 : l.1 4 0 ≠ o := fun z => by
    have := h.1 4 0 (show 0 < 1 by decide)
    rw [z, t0] at this
    cases this
  rw [dfl_1]
  simp only [s13 (va_up_self _ _ _), va_up_up, t_76_0, t_76_1, t_76_2, t_76_5, t_76_6, t_76_7, t_76_9, t_76_12, t_76_14, t_76_17, t_76_18, t_76_21, t_76_24, t_76_26, t_76_29, t_76_39, t_76_40, t_76_43, t_76_46, t_76_47, t_76_48, t_76_49, t_76_50, t_76_52, t_76_55, t_76_58, t_76_59, t_76_62, t_76_65, t_76_66, t_76_67, decide_true, decide_false, Bool.not_true, Bool.not_false, Nat.reduceLeDiff, Nat.reduceSub, z0_t, z1_f, z1_t, true_or, or_true,  if_true, if_false, Bool.false_eq_true, aft_v, aft_n, aftN_v, aftN_n, qwV_s, qwV_0, bI_if, bI_ok, bI_ok0, bI_ok1, true_and, va_up_ne _ _ n4, k_4 h]
  refine s55w h h2 ho (f := nmF d e a b) (fun l' hl' hE g1 g2 => ?_)
  have := hK l' hl' hE (by rw [g1, g2, hD])
  rw [← hE.1]
  simp only [t_76_0, t_76_1, t_76_2, t_76_5, t_76_6, t_76_7, t_76_9, t_76_12, t_76_14, t_76_17, t_76_18, t_76_21, t_76_24, t_76_26, t_76_29, t_76_39, t_76_40, t_76_43, t_76_46, t_76_47, t_76_48, t_76_49, t_76_50, t_76_52, t_76_55, t_76_58, t_76_59, t_76_62, t_76_65, t_76_66, t_76_67, decide_true, decide_false, Bool.not_true, Bool.not_false, Nat.reduceLeDiff, Nat.reduceSub, z0_t, z1_f, z1_t, true_or, or_true,  if_true, if_false, Bool.false_eq_true, aft_v, aft_n, aftN_v, aftN_n, qwV_s, qwV_0, bI_if, bI_ok, bI_ok0, bI_ok1, true_and, k_0 h, k_1 h, k_2 h, k_4 h, k_5 h, k_7 h, f_0_1 hl', k_4 hl', s53 hl', pk_sub (show 1 ≤ n.2.1 + 1 by omega), Nat.add_sub_cancel, this]
theorem s76n (h : Lay x l n) (hI : CI n (c 9) (c 13)) {a b d e : Int32} (h1 : (inP a b && (inR (nI 1) d (nI 8) && inR (nI 0) e (nI 3))) = false) (hK : K (.inr 2) (Wo x l n c)) : CL x 76 [.ref (l.1 0 0), .int a, .int b, .int d, .int e] (Wo x l n c) K := by
  rw [CL_76]
  cases q1 : inP a b
  · simp only [t_76_0, t_76_1, t_76_2, t_76_5, t_76_6, t_76_7, t_76_9, t_76_12, t_76_14, t_76_17, t_76_18, t_76_21, t_76_24, t_76_26, t_76_29, t_76_39, t_76_40, t_76_43, t_76_46, t_76_47, t_76_48, t_76_49, t_76_50, t_76_52, t_76_55, t_76_58, t_76_59, t_76_62, t_76_65, t_76_66, t_76_67, decide_true, decide_false, Bool.not_true, Bool.not_false, Nat.reduceLeDiff, Nat.reduceSub, z0_t, z1_f, z1_t, true_or, or_true,  if_true, if_false, Bool.false_eq_true, aft_v, aft_n, aftN_v, aftN_n, qwV_s, qwV_0, bI_if, bI_ok, bI_ok0, bI_ok1, true_and, s96, q1, aft_x mH_76, hK]
  · cases q3 : inR (nI 1) d (nI 8)
    · simp only [t_76_0, t_76_1, t_76_2, t_76_5, t_76_6, t_76_7, t_76_9, t_76_12, t_76_14, t_76_17, t_76_18, t_76_21, t_76_24, t_76_26, t_76_29, t_76_39, t_76_40, t_76_43, t_76_46, t_76_47, t_76_48, t_76_49, t_76_50, t_76_52, t_76_55, t_76_58, t_76_59, t_76_62, t_76_65, t_76_66, t_76_67, decide_true, decide_false, Bool.not_true, Bool.not_false, Nat.reduceLeDiff, Nat.reduceSub, z0_t, z1_f, z1_t, true_or, or_true,  if_true, if_false, Bool.false_eq_true, aft_v, aft_n, aftN_v, aftN_n, qwV_s, qwV_0, bI_if, bI_ok, bI_ok0, bI_ok1, true_and, s96, s98, q1, q3, aft_x mH_76, hK]
    · cases q4 : inR (nI 0) e (nI 3)
      · simp only [t_76_0, t_76_1, t_76_2, t_76_5, t_76_6, t_76_7, t_76_9, t_76_12, t_76_14, t_76_17, t_76_18, t_76_21, t_76_24, t_76_26, t_76_29, t_76_39, t_76_40, t_76_43, t_76_46, t_76_47, t_76_48, t_76_49, t_76_50, t_76_52, t_76_55, t_76_58, t_76_59, t_76_62, t_76_65, t_76_66, t_76_67, decide_true, decide_false, Bool.not_true, Bool.not_false, Nat.reduceLeDiff, Nat.reduceSub, z0_t, z1_f, z1_t, true_or, or_true,  if_true, if_false, Bool.false_eq_true, aft_v, aft_n, aftN_v, aftN_n, qwV_s, qwV_0, bI_if, bI_ok, bI_ok0, bI_ok1, true_and, s96, s97, s98, q1, q3, q4, aft_x mH_76, hK]
      · rw [q1, q3, q4] at h1
        cases h1
theorem s76f (h : Lay x l n) (hI : CI n (c 9) (c 13)) {a b d e : Int32} (h1 : (inP a b && (inR (nI 1) d (nI 8) && inR (nI 0) e (nI 3))) = true) (h2 : n.2.1 = 10) (hK : K (.inr 3) (Wo x l n c)) : CL x 76 [.ref (l.1 0 0), .int a, .int b, .int d, .int e] (Wo x l n c) K := by
  obtain ⟨q1, q2⟩ := (Bool.and_eq_true _ _).mp h1
  obtain ⟨q3, q4⟩ := (Bool.and_eq_true _ _).mp q2
  rw [CL_76]
  simp only [t_76_0, t_76_1, t_76_2, t_76_5, t_76_6, t_76_7, t_76_9, t_76_12, t_76_14, t_76_17, t_76_18, t_76_21, t_76_24, t_76_26, t_76_29, t_76_39, t_76_40, t_76_43, t_76_46, t_76_47, t_76_48, t_76_49, t_76_50, t_76_52, t_76_55, t_76_58, t_76_59, t_76_62, t_76_65, t_76_66, t_76_67, decide_true, decide_false, Bool.not_true, Bool.not_false, Nat.reduceLeDiff, Nat.reduceSub, z0_t, z1_f, z1_t, true_or, or_true,  if_true, if_false, Bool.false_eq_true, aft_v, aft_n, aftN_v, aftN_n, qwV_s, qwV_0, bI_if, bI_ok, bI_ok0, bI_ok1, true_and, k_0 h, k_1 h, k_2 h, k_4 h, k_5 h, k_7 h, s96, s97, s98, q1, q3, q4, f_0_1 h, s53 h, h2, if_neg (lt_f (Nat.le_refl 10) (show 10 < 2 ^ 31 by decide)), hK]
/-! sheets -/
def z0f : Nat → Int32 := fun _ => 0
def shC (c : Cc) (S : Nat) (u : Nat → Int32) : Cc := cu (cu (cu (cu c 13 S u) 15 (S + 1) z0f) 16 (S + 1) z0f) 17 (S + 1) z0f
theorem shC_n {S : Nat} {u : Nat → Int32} (h1 : ¬ (k = 13 ∧ i = S)) (h2 : ¬ ((k = 14 ∨ k = 15 ∨ k = 16 ∨ k = 17) ∧ i = S + 1)) : shC c S u k i = c k i := by
  unfold shC cu
  rw [if_neg (by omega), if_neg (by omega), if_neg (by omega), if_neg (by omega)]
theorem ct_sh {S : Nat} (hl : ∀ k i, ¬ (k = 13 ∧ i = S) → ¬ ((k = 14 ∨ k = 15 ∨ k = 16 ∨ k = 17) ∧ i = S + 1) → k ≠ 8 → l'.1 k i = l.1 k i) {u : Nat → Int32} (h7 : k ≠ 7) (h8 : k ≠ 8) (h13 : ¬ (k = 13 ∧ i = S)) (h14 : ¬ ((k = 14 ∨ k = 15 ∨ k = 16 ∨ k = 17) ∧ i = S + 1)) : ct x l' (n.1, n.2.1, S + 1, n.2.2.2) (shC c S u) k i = ct x l n c k i := by
  have e : shC c S u k i = c k i := shC_n h13 h14
  unfold ct
  split <;> first | exact absurd rfl h7 | exact absurd rfl h8 | (simp at h13 h14; simp [e, hl, h13, h14])
theorem bd_sh {S : Nat} (hN : n.2.2.1 = S) (hi : i < bd (n.1, n.2.1, S + 1, n.2.2.2) k) (h13 : ¬ (k = 13 ∧ i = S)) (h14 : ¬ ((k = 14 ∨ k = 15 ∨ k = 16 ∨ k = 17) ∧ i = S + 1)) (h8 : k ≠ 8) : i < bd n k := by
  subst hN
  revert hi
  unfold bd
  split <;> first | exact id | exact absurd rfl h8 | (simp only [true_and] at h13; intro hi; have hi' : i < n.2.2.1 + 1 := hi; omega) | (simp at h14; intro hi; have hi' : i < n.2.2.1 + 1 + 1 := hi; show i < n.2.2.1 + 1; omega)
theorem fin_sh {S e q o1 o2 o3 : Nat} {w' : Wd} {u : Nat → Int32} (h : Lay x l n) (hN : n.2.2.1 = S) (h' : Lay x l' (n.1, n.2.1, S + 1, n.2.2.2)) (hl : ∀ k i, ¬ (k = 13 ∧ i = S) → ¬ ((k = 14 ∨ k = 15 ∨ k = 16 ∨ k = 17) ∧ i = S + 1) → k ≠ 8 → l'.1 k i = l.1 k i) (ho : l'.1 13 S = o) (hq : l'.1 14 (S + 1) = q) (ho1 : l'.1 15 (S + 1) = o1) (ho2 : l'.1 16 (S + 1) = o2) (ho3 : l'.1 17 (S + 1) = o3) (he : l'.1 8 0 = e) (hn : l.2 o = none ∧ l.2 q = none ∧ l.2 o1 = none ∧ l.2 o2 = none ∧ l.2 o3 = none) (he' : l.2 e = none ∨ n.2.2.1 ≠ 0 ∧ e = l.1 8 0) (ht : ∀ b, l'.2 b = none → l.2 b = none ∧ b ≠ o ∧ b ≠ q ∧ b ≠ o1 ∧ b ≠ o2 ∧ b ≠ o3 ∧ b ≠ e)
    (w1 : w' (l.1 7 0) = some (eO 0 [.int (nI (S + 1)), .ref e, .int (nI (S + 1))])) (w2 : w' e = some (eQ x 10 (va_up (fun j => if j < S then some (l.1 13 j) else none) S (some o)))) (w3 : w' o = some (eO 6 [.int (u 0), .int (u 1), .int (u 2), .int (u 3), .int (u 4), .int (u 5), .ref q, .int (u 7), .int (u 8)])) (w3q : w' q = some (eO 3 [.ref o1, .ref o2, .ref o3])) (w31 : w' o1 = some (eI x 10 z0f)) (w32 : w' o2 = some (eI x 10 z0f)) (w33 : w' o3 = some (eI x 64 z0f)) (w4 : ∀ b, b ≠ l.1 7 0 → b ≠ e → b ≠ o → b ≠ q → b ≠ o1 → b ≠ o2 → b ≠ o3 → w' b = Wo x l n c b) : w' = Wo x l' (n.1, n.2.1, S + 1, n.2.2.2) (shC c S u) := by
  refine Wo_fin h' (fun k i hi => ?_) (fun b hb => ?_)
  · by_cases q13 : k = 13 ∧ i = S
    · obtain ⟨rfl, rfl⟩ := q13
      rw [ho, w3]
      unfold ct shC
      simp only [cu_s, cu_k (show 13 ≠ 15 by decide), cu_k (show 13 ≠ 16 by decide), cu_k (show 13 ≠ 17 by decide), hq]
    · by_cases q14 : (k = 14 ∨ k = 15 ∨ k = 16 ∨ k = 17) ∧ i = S + 1
      · obtain ⟨z, rfl⟩ := q14
        rcases z with rfl | rfl | rfl | rfl
        · rw [hq, w3q]
          unfold ct
          simp only [ho1, ho2, ho3]
        · rw [ho1, w31]
          unfold ct shC ml
          simp only [cu_s, cu_k (show 15 ≠ 16 by decide), cu_k (show 15 ≠ 17 by decide)]
        · rw [ho2, w32]
          unfold ct shC ml
          simp only [cu_s, cu_k (show 16 ≠ 17 by decide)]
        · rw [ho3, w33]
          unfold ct shC ml
          simp only [cu_s]
      · by_cases q8 : k = 8
        · subst q8
          have : i = 0 := by
            have hi' : i < (if S + 1 = 0 then 0 else 1) := hi
            rw [if_neg (by omega)] at hi'
            omega
          subst this
          rw [he, w2]
          refine congrArg some (congrArg (eQ x 10) ?_)
          exact el_nm (fun j hj => hl 13 j (by omega) (by omega) (by decide)) ho
        · have hi2 := bd_sh hN hi q13 q14 q8
          by_cases q7 : k = 7
          · subst q7
            have : i = 0 := by
              have hi' : i < 1 := hi2
              omega
            subst this
            rw [hl 7 0 (by omega) (by omega) (by decide), w1]
            unfold ct
            simp [he]
          · have hk := hl k i q13 q14 q8
            have t := h.1 k i hi2
            have tn : ∀ z, l.2 z = none → l.1 k i ≠ z := fun z hz q => by
              rw [q, hz] at t
              cases t
            rw [hk, w4 _ ?_ ?_ (tn _ hn.1) (tn _ hn.2.1) (tn _ hn.2.2.1) (tn _ hn.2.2.2.1) (tn _ hn.2.2.2.2), Wo_get h hi2, ct_sh hl q7 q8 q13 q14]
            · intro z
              rw [z, h.1 7 0 (show 0 < 1 by decide)] at t
              simp only [Option.some.injEq, Prod.mk.injEq] at t
              omega
            · rintro rfl
              rcases he' with z | ⟨z, z2⟩
              · rw [z] at t; cases t
              · rw [z2, h.1 8 0 (show 0 < (if n.2.2.1 = 0 then 0 else 1) by rw [if_neg z]; decide)] at t
                simp only [Option.some.injEq, Prod.mk.injEq] at t
                omega
  · obtain ⟨t1, t2, t3, t4, t5, t6, t7⟩ := ht b hb
    rw [w4 b ?_ t7 t2 t3 t4 t5 t6, Wo_no t1]
    intro z
    rw [z, h.1 7 0 (show 0 < 1 by decide)] at t1
    cases t1
/-- the sheets' list takes a new one -/
theorem s10s {q o1 o2 o3 : Nat} {w : Wd} {u : Nat → Int32} (h : Lay x l n) (hN : n.2.2.1 < 6) (ho : frs x (Wo x l n c) o) (hq : frs x (Wo x l n c) q) (h1 : frs x (Wo x l n c) o1) (h2 : frs x (Wo x l n c) o2) (h3 : frs x (Wo x l n c) o3) (dj : [o, q, o1, o2, o3].Nodup)
    (w3 : w o = some (eO 6 [.int (u 0), .int (u 1), .int (u 2), .int (u 3), .int (u 4), .int (u 5), .ref q, .int (u 7), .int (u 8)])) (w3q : w q = some (eO 3 [.ref o1, .ref o2, .ref o3])) (w31 : w o1 = some (eI x 10 z0f)) (w32 : w o2 = some (eI x 10 z0f)) (w33 : w o3 = some (eI x 64 z0f)) (w4 : ∀ b, b ≠ o → b ≠ q → b ≠ o1 → b ≠ o2 → b ≠ o3 → w b = Wo x l n c b)
    (hK : ∀ l' : Ly, Lay x l' (n.1, n.2.1, n.2.2.1 + 1, n.2.2.2) → LyE l l' → l'.1 0 1 = l.1 0 1 → l'.1 9 n.1 = l.1 9 n.1 → K (.inl (some (.int (nI 1)))) (Wo x l' (n.1, n.2.1, n.2.2.1 + 1, n.2.2.2) (shC c n.2.2.1 u))) : CL x 10 [.ref (l.1 7 0), .ref o] w K := by
  have t0 := Wo_fr ho
  have tq := Wo_fr hq
  have t1 := Wo_fr h1
  have t2 := Wo_fr h2
  have t3 := Wo_fr h3
  have dj' : (o ≠ q ∧ o ≠ o1 ∧ o ≠ o2 ∧ o ≠ o3) ∧ (q ≠ o1 ∧ q ≠ o2 ∧ q ≠ o3) ∧ (o1 ≠ o2 ∧ o1 ≠ o3) ∧ o2 ≠ o3 := by
    simp at dj
    omega
  obtain ⟨⟨d1, d2, d3, d4⟩, ⟨d5, d6, d7⟩, ⟨d8, d9⟩, d10⟩ := dj'
  have ne : ∀ k i, i < bd n k → ∀ z, l.2 z = none → l.1 k i ≠ z := fun k i q z hz e => by
    have := h.1 k i q
    rw [e, hz] at this
    cases this
  have w4' : ∀ k i, i < bd n k → w (l.1 k i) = Wo x l n c (l.1 k i) := fun k i hi => w4 _ (ne k i hi _ t0) (ne k i hi _ tq) (ne k i hi _ t1) (ne k i hi _ t2) (ne k i hi _ t3)
  have wE : w (xE x) = none := by
    rw [w4 _ (Ne.symm ho.2.1) (Ne.symm hq.2.1) (Ne.symm h1.2.1) (Ne.symm h2.2.1) (Ne.symm h3.2.1), Wo_E h]
  have n7 := ne 7 0 (show 0 < 1 by decide)
  have hL0 := LayB_put h t0 ho.2.1 ho.2.2 (show n.2.2.1 = bd n 13 from rfl)
  have hL1 := LayB_put hL0 (k := 14) (i := n.2.2.1 + 1) (o := q) (by rw [lput_u (Ne.symm d1), tq]) hq.2.1 hq.2.2 (by simp [bd])
  have hL2 := LayB_put hL1 (k := 15) (i := n.2.2.1 + 1) (o := o1) (by rw [lput_u (Ne.symm d5), lput_u (Ne.symm d2), t1]) h1.2.1 h1.2.2 (by simp [bd])
  have hL3 := LayB_put hL2 (k := 16) (i := n.2.2.1 + 1) (o := o2) (by rw [lput_u (Ne.symm d8), lput_u (Ne.symm d6), lput_u (Ne.symm d3), t2]) h2.2.1 h2.2.2 (by simp [bd])
  have hL4 := LayB_put hL3 (k := 17) (i := n.2.2.1 + 1) (o := o3) (by rw [lput_u (Ne.symm d10), lput_u (Ne.symm d9), lput_u (Ne.symm d7), lput_u (Ne.symm d4), t3]) h3.2.1 h3.2.2 (by simp [bd])
  have hr : qwK (w o) 4 ∨ qwK (w o) 1 ∨ qwK (w o) 6 := by
    rw [w3]
    exact Or.inr (Or.inr rfl)
  have g7 := g_7 h (c := c)
  by_cases q0 : n.2.2.1 = 0
  · rw [if_pos q0, q0] at g7
    refine s10b (by rw [w4' 7 0 (show 0 < 1 by decide), g7]) wE hr (Ne.symm (n7 o t0)) (fun e w' he v1 v2 v3 => ?_)
    have me : ∀ a y, w a = some y → e ≠ a := fun a y hy => Ne.symm (fr_ne he hy)
    have m0 := me _ _ w3
    have mq := me _ _ w3q
    have m1 := me _ _ w31
    have m2 := me _ _ w32
    have m3 := me _ _ w33
    have te : l.2 e = none := by
      have := he.1
      rw [w4 e m0 mq m1 m2 m3] at this
      exact Wo_fr ⟨this, he.2⟩
    have hL5 := LayB_put hL4 (o := e) (k := 8) (i := 0) (by rw [lput_u m3, lput_u m2, lput_u m1, lput_u mq, lput_u m0, te]) he.2.1 he.2.2 (by simp [bd, q0])
    have hL : Lay x (lput (lput (lput (lput (lput (lput l 13 n.2.2.1 o) 14 (n.2.2.1 + 1) q) 15 (n.2.2.1 + 1) o1) 16 (n.2.2.1 + 1) o2) 17 (n.2.2.1 + 1) o3) 8 0 e) (n.1, n.2.1, n.2.2.1 + 1, n.2.2.2) := LayB_cg hL5 (fun k => by
      by_cases e1 : k = 8
      · subst e1; simp [bd, q0]
      · by_cases e2 : k = 13
        · subst e2; simp [bd]
        · by_cases e3 : k = 14
          · subst e3; simp [bd]
          · by_cases e4 : k = 15
            · subst e4; simp [bd]
            · by_cases e5 : k = 16
              · subst e5; simp [bd]
              · by_cases e6 : k = 17
                · subst e6; simp [bd]
                · simp only [e1, e2, e3, e4, e5, e6, if_false]
                  unfold bd
                  split <;> first | rfl | exact absurd rfl e1 | exact absurd rfl e2 | exact absurd rfl e3 | exact absurd rfl e4 | exact absurd rfl e5 | exact absurd rfl e6)
    have fin := fin_sh (l' := lput (lput (lput (lput (lput (lput l 13 n.2.2.1 o) 14 (n.2.2.1 + 1) q) 15 (n.2.2.1 + 1) o1) 16 (n.2.2.1 + 1) o2) 17 (n.2.2.1 + 1) o3) 8 0 e) (u := u) (c := c) h rfl hL (o := o) (q := q) (o1 := o1) (o2 := o2) (o3 := o3) (e := e) (w' := w') (fun k i z1 z2 z3 => by rw [lput_n (by omega), lput_n (by omega), lput_n (by omega), lput_n (by omega), lput_n (by omega), lput_n z1])
      (by rw [lput_n (by omega), lput_n (by omega), lput_n (by omega), lput_n (by omega), lput_n (by omega), lput_1]) (by rw [lput_n (by omega), lput_n (by omega), lput_n (by omega), lput_n (by omega), lput_1]) (by rw [lput_n (by omega), lput_n (by omega), lput_n (by omega), lput_1]) (by rw [lput_n (by omega), lput_n (by omega), lput_1]) (by rw [lput_n (by omega), lput_1]) lput_1 ⟨t0, tq, t1, t2, t3⟩ (Or.inl te) (fun b hb => by
      by_cases b1 : b = e
      · rw [b1, lput_t] at hb; cases hb
      · rw [lput_u b1] at hb
        by_cases b2 : b = o3
        · rw [b2, lput_t] at hb; cases hb
        · rw [lput_u b2] at hb
          by_cases b3 : b = o2
          · rw [b3, lput_t] at hb; cases hb
          · rw [lput_u b3] at hb
            by_cases b4 : b = o1
            · rw [b4, lput_t] at hb; cases hb
            · rw [lput_u b4] at hb
              by_cases b5 : b = q
              · rw [b5, lput_t] at hb; cases hb
              · rw [lput_u b5] at hb
                by_cases b6 : b = o
                · rw [b6, lput_t] at hb; cases hb
                · rw [lput_u b6] at hb
                  exact ⟨hb, b6, b5, b4, b3, b2, b1⟩) (by rw [v1, q0]) (by
        rw [v2, q0]
        rfl) (by rw [v3 o (Ne.symm (n7 o t0)) (Ne.symm m0), w3]) (by rw [v3 q (Ne.symm (n7 q tq)) (Ne.symm mq), w3q]) (by rw [v3 o1 (Ne.symm (n7 o1 t1)) (Ne.symm m1), w31]) (by rw [v3 o2 (Ne.symm (n7 o2 t2)) (Ne.symm m2), w32]) (by rw [v3 o3 (Ne.symm (n7 o3 t3)) (Ne.symm m3), w33]) (fun b b1 b2 b3 b4 b5 b6 b7 => by rw [v3 b b1 b2, w4 b b3 b4 b5 b6 b7])
    rw [fin]
    refine hK _ hL ⟨?_, ?_, ?_, ?_, ?_⟩ ?_ ?_ <;> rw [lput_n (by omega), lput_n (by omega), lput_n (by omega), lput_n (by omega), lput_n (by omega), lput_n (by omega)]
  · rw [if_neg q0] at g7
    have l8 : 0 < bd n 8 := (show 0 < (if n.2.2.1 = 0 then 0 else 1) by rw [if_neg q0]; decide)
    have n8 := ne 8 0 l8
    have e87 := ad_ne h (k := 8) (i := 0) (k' := 7) (i' := 0) l8 (show 0 < 1 by decide) (Or.inl (by decide))
    refine s10a (by rw [w4' 7 0 (show 0 < 1 by decide), g7]) (by rw [w4' 8 0 l8, g_8 h q0]) hr (by omega) (Ne.symm (n7 o t0)) (Ne.symm (n8 o t0)) e87 (fun w' v1 v2 v3 => ?_)
    have hL : Lay x (lput (lput (lput (lput (lput l 13 n.2.2.1 o) 14 (n.2.2.1 + 1) q) 15 (n.2.2.1 + 1) o1) 16 (n.2.2.1 + 1) o2) 17 (n.2.2.1 + 1) o3) (n.1, n.2.1, n.2.2.1 + 1, n.2.2.2) := LayB_cg hL4 (fun k => by
      by_cases e1 : k = 8
      · subst e1; simp [bd, q0]
      · by_cases e2 : k = 13
        · subst e2; simp [bd]
        · by_cases e3 : k = 14
          · subst e3; simp [bd]
          · by_cases e4 : k = 15
            · subst e4; simp [bd]
            · by_cases e5 : k = 16
              · subst e5; simp [bd]
              · by_cases e6 : k = 17
                · subst e6; simp [bd]
                · simp only [e2, e3, e4, e5, e6, if_false]
                  unfold bd
                  split <;> first | rfl | exact absurd rfl e1 | exact absurd rfl e2 | exact absurd rfl e3 | exact absurd rfl e4 | exact absurd rfl e5 | exact absurd rfl e6)
    have fin := fin_sh (l' := lput (lput (lput (lput (lput l 13 n.2.2.1 o) 14 (n.2.2.1 + 1) q) 15 (n.2.2.1 + 1) o1) 16 (n.2.2.1 + 1) o2) 17 (n.2.2.1 + 1) o3) (u := u) (c := c) h rfl hL (o := o) (q := q) (o1 := o1) (o2 := o2) (o3 := o3) (e := l.1 8 0) (w' := w') (fun k i z1 z2 z3 => by rw [lput_n (by omega), lput_n (by omega), lput_n (by omega), lput_n (by omega), lput_n z1])
      (by rw [lput_n (by omega), lput_n (by omega), lput_n (by omega), lput_n (by omega), lput_1]) (by rw [lput_n (by omega), lput_n (by omega), lput_n (by omega), lput_1]) (by rw [lput_n (by omega), lput_n (by omega), lput_1]) (by rw [lput_n (by omega), lput_1]) lput_1 (by rw [lput_n (by omega), lput_n (by omega), lput_n (by omega), lput_n (by omega), lput_n (by omega)]) ⟨t0, tq, t1, t2, t3⟩ (Or.inr ⟨q0, rfl⟩) (fun b hb => by
      by_cases b2 : b = o3
      · rw [b2, lput_t] at hb; cases hb
      · rw [lput_u b2] at hb
        by_cases b3 : b = o2
        · rw [b3, lput_t] at hb; cases hb
        · rw [lput_u b3] at hb
          by_cases b4 : b = o1
          · rw [b4, lput_t] at hb; cases hb
          · rw [lput_u b4] at hb
            by_cases b5 : b = q
            · rw [b5, lput_t] at hb; cases hb
            · rw [lput_u b5] at hb
              by_cases b6 : b = o
              · rw [b6, lput_t] at hb; cases hb
              · rw [lput_u b6] at hb
                exact ⟨hb, b6, b5, b4, b3, b2, fun z => by rw [z, h.1 8 0 l8] at hb; cases hb⟩) v1 v2 (by rw [v3 o (Ne.symm (n7 o t0)) (Ne.symm (n8 o t0)), w3]) (by rw [v3 q (Ne.symm (n7 q tq)) (Ne.symm (n8 q tq)), w3q]) (by rw [v3 o1 (Ne.symm (n7 o1 t1)) (Ne.symm (n8 o1 t1)), w31]) (by rw [v3 o2 (Ne.symm (n7 o2 t2)) (Ne.symm (n8 o2 t2)), w32]) (by rw [v3 o3 (Ne.symm (n7 o3 t3)) (Ne.symm (n8 o3 t3)), w33]) (fun b b1 b2 b3 b4 b5 b6 b7 => by rw [v3 b b1 b2, w4 b b3 b4 b5 b6 b7])
    rw [fin]
    refine hK _ hL ⟨?_, ?_, ?_, ?_, ?_⟩ ?_ ?_ <;> rw [lput_n (by omega), lput_n (by omega), lput_n (by omega), lput_n (by omega), lput_n (by omega)]
def shF (a0 a1 a2 a3 a4 a5 : Int32) : Nat → Int32 := fun j => match j with
  | 0 => a0
  | 1 => a1
  | 2 => a2
  | 3 => a3
  | 4 => a4
  | 5 => a5
  | _ => nI 0
abbrev shOk (a1 a2 a3 a4 a5 : Int32) : Bool := inP a1 a2 && (inR a1 a3 (nI 39) && (inR a2 a4 (nI 39) && inR (-1) a5 (nI 39)))
theorem s82 (h : Lay x l n) (hD : l.1 0 1 = l.1 9 n.1) (hI : CI n (c 9) (c 13)) {a0 a1 a2 a3 a4 a5 : Int32} (h1 : isc a0 = true) (h2 : shOk a1 a2 a3 a4 a5 = true) (h3 : n.2.2.1 < 6)
    (hK : ∀ l' : Ly, Lay x l' (n.1, n.2.1, n.2.2.1 + 1, n.2.2.2) → LyE l l' → l'.1 0 1 = l'.1 9 n.1 → K (.inl (some (.int (nI n.2.2.1)))) (Wo x l' (n.1, n.2.1, n.2.2.1 + 1, n.2.2.2) (shC c n.2.2.1 (shF a0 a1 a2 a3 a4 a5)))) : CL x 82 [.ref (l.1 0 0), .int a0, .int a1, .int a2, .int a3, .int a4, .int a5] (Wo x l n c) K := by
  obtain ⟨q1, q2⟩ := (Bool.and_eq_true _ _).mp h2
  obtain ⟨q3, q4⟩ := (Bool.and_eq_true _ _).mp q2
  obtain ⟨q5, q6⟩ := (Bool.and_eq_true _ _).mp q4
  rw [CL_82]
  simp only [t_82_0, t_82_1, t_82_4, t_82_5, t_82_6, t_82_9, t_82_10, t_82_12, t_82_14, t_82_17, t_82_18, t_82_20, t_82_22, t_82_25, t_82_26, t_82_28, t_82_30, t_82_33, t_82_34, t_82_37, t_82_40, t_82_42, t_82_45, t_82_55, t_82_56, t_82_59, t_82_62, t_82_63, t_82_64, t_82_65, t_82_66, t_82_68, t_82_70, t_82_72, t_82_75, t_82_78, t_82_79, t_82_80, t_82_83, t_82_86, t_82_87, t_82_88, decide_true, decide_false, Bool.not_true, Bool.not_false, Nat.reduceLeDiff, Nat.reduceSub, z0_t, z1_f, z1_t, true_or, or_true,  if_true, if_false, Bool.false_eq_true, aft_v, aft_n, aftN_v, aftN_n, qwV_s, qwV_0, bI_if, bI_ok, bI_ok0, bI_ok1, true_and, k_0 h, k_1 h, k_2 h, k_4 h, k_5 h, k_7 h, s95, s96, s98, h1, q1, q3, q5, q6, f_0_2 h, s6s h, if_pos (lt_t h3 (show 6 < 2 ^ 31 by decide))]
  intro o ho
  have t0 := Wo_fr ho
  have n7 : l.1 7 0 ≠ o := fun z => by
    have := h.1 7 0 (show 0 < 1 by decide)
    rw [z, t0] at this
    cases this
  rw [dfl_6]
  refine s31 (va_up_self _ _ _) (fun q o1 o2 o3 w' hq h1 h2 h3' d1 d2 d3 d4 d5 d6 w0 w1 w2 w3 w4 wb => ?_)
  obtain ⟨eq, hq⟩ := fr_up hq
  obtain ⟨e1, h1⟩ := fr_up h1
  obtain ⟨e2, h2⟩ := fr_up h2
  obtain ⟨e3, h3'⟩ := fr_up h3'
  have wb' : ∀ b, b ≠ o → b ≠ q → b ≠ o1 → b ≠ o2 → b ≠ o3 → w' b = Wo x l n c b := fun b b0 bq b1 b2 b3 => by rw [wb b b0 bq b1 b2 b3, va_up_ne _ _ b0]
  have ne : ∀ z, l.2 z = none → l.1 7 0 ≠ z := fun z hz e => by
    have := h.1 7 0 (show 0 < 1 by decide)
    rw [e, hz] at this
    cases this
  have w7 : qwK (w' (l.1 7 0)) 0 = True := by
    rw [wb' _ n7 (ne _ (Wo_fr hq)) (ne _ (Wo_fr h1)) (ne _ (Wo_fr h2)) (ne _ (Wo_fr h3')), k_7 h]
  simp only [t_82_0, t_82_1, t_82_4, t_82_5, t_82_6, t_82_9, t_82_10, t_82_12, t_82_14, t_82_17, t_82_18, t_82_20, t_82_22, t_82_25, t_82_26, t_82_28, t_82_30, t_82_33, t_82_34, t_82_37, t_82_40, t_82_42, t_82_45, t_82_55, t_82_56, t_82_59, t_82_62, t_82_63, t_82_64, t_82_65, t_82_66, t_82_68, t_82_70, t_82_72, t_82_75, t_82_78, t_82_79, t_82_80, t_82_83, t_82_86, t_82_87, t_82_88, decide_true, decide_false, Bool.not_true, Bool.not_false, Nat.reduceLeDiff, Nat.reduceSub, z0_t, z1_f, z1_t, true_or, or_true,  if_true, if_false, Bool.false_eq_true, aft_v, aft_n, aftN_v, aftN_n, qwV_s, qwV_0, bI_if, bI_ok, bI_ok0, bI_ok1, true_and, w7]
  refine s10s h h3 ho hq h1 h2 h3' (u := shF a0 a1 a2 a3 a4 a5) ?_ w0 w1 w2 w3 w4 wb' (fun l' hl' hE g1 g2 => ?_)
  · simp only [List.nodup_cons, List.mem_cons, List.not_mem_nil, or_false, not_or, List.nodup_nil, and_true]
    exact ⟨⟨Ne.symm eq, Ne.symm e1, Ne.symm e2, Ne.symm e3⟩, ⟨d1, d2, d3⟩, ⟨d4, d5⟩, d6, not_false⟩
  · have := hK l' hl' hE (by rw [g1, g2, hD])
    rw [← hE.1]
    simp only [t_82_0, t_82_1, t_82_4, t_82_5, t_82_6, t_82_9, t_82_10, t_82_12, t_82_14, t_82_17, t_82_18, t_82_20, t_82_22, t_82_25, t_82_26, t_82_28, t_82_30, t_82_33, t_82_34, t_82_37, t_82_40, t_82_42, t_82_45, t_82_55, t_82_56, t_82_59, t_82_62, t_82_63, t_82_64, t_82_65, t_82_66, t_82_68, t_82_70, t_82_72, t_82_75, t_82_78, t_82_79, t_82_80, t_82_83, t_82_86, t_82_87, t_82_88, decide_true, decide_false, Bool.not_true, Bool.not_false, Nat.reduceLeDiff, Nat.reduceSub, z0_t, z1_f, z1_t, true_or, or_true,  if_true, if_false, Bool.false_eq_true, aft_v, aft_n, aftN_v, aftN_n, qwV_s, qwV_0, bI_if, bI_ok, bI_ok0, bI_ok1, true_and, k_0 h, k_1 h, k_2 h, k_4 h, k_5 h, k_7 h, f_0_2 hl', k_7 hl', s6s hl', pk_sub (show 1 ≤ n.2.2.1 + 1 by omega), Nat.add_sub_cancel, this]
theorem s82n (h : Lay x l n) {a0 a1 a2 a3 a4 a5 : Int32} (h1 : isc a0 = false) (hK : K (.inr 1) (Wo x l n c)) : CL x 82 [.ref (l.1 0 0), .int a0, .int a1, .int a2, .int a3, .int a4, .int a5] (Wo x l n c) K := by
  rw [CL_82]
  simp only [t_82_0, t_82_1, t_82_4, t_82_5, t_82_6, t_82_9, t_82_10, t_82_12, t_82_14, t_82_17, t_82_18, t_82_20, t_82_22, t_82_25, t_82_26, t_82_28, t_82_30, t_82_33, t_82_34, t_82_37, t_82_40, t_82_42, t_82_45, t_82_55, t_82_56, t_82_59, t_82_62, t_82_63, t_82_64, t_82_65, t_82_66, t_82_68, t_82_70, t_82_72, t_82_75, t_82_78, t_82_79, t_82_80, t_82_83, t_82_86, t_82_87, t_82_88, decide_true, decide_false, Bool.not_true, Bool.not_false, Nat.reduceLeDiff, Nat.reduceSub, z0_t, z1_f, z1_t, true_or, or_true,  if_true, if_false, Bool.false_eq_true, aft_v, aft_n, aftN_v, aftN_n, qwV_s, qwV_0, bI_if, bI_ok, bI_ok0, bI_ok1, true_and, s95, h1, aft_x mH_82, hK]
theorem s82m (h : Lay x l n) {a0 a1 a2 a3 a4 a5 : Int32} (h1 : isc a0 = true) (h2 : shOk a1 a2 a3 a4 a5 = false) (hK : K (.inr 2) (Wo x l n c)) : CL x 82 [.ref (l.1 0 0), .int a0, .int a1, .int a2, .int a3, .int a4, .int a5] (Wo x l n c) K := by
  rw [CL_82]
  cases q1 : inP a1 a2
  · simp only [t_82_0, t_82_1, t_82_4, t_82_5, t_82_6, t_82_9, t_82_10, t_82_12, t_82_14, t_82_17, t_82_18, t_82_20, t_82_22, t_82_25, t_82_26, t_82_28, t_82_30, t_82_33, t_82_34, t_82_37, t_82_40, t_82_42, t_82_45, t_82_55, t_82_56, t_82_59, t_82_62, t_82_63, t_82_64, t_82_65, t_82_66, t_82_68, t_82_70, t_82_72, t_82_75, t_82_78, t_82_79, t_82_80, t_82_83, t_82_86, t_82_87, t_82_88, decide_true, decide_false, Bool.not_true, Bool.not_false, Nat.reduceLeDiff, Nat.reduceSub, z0_t, z1_f, z1_t, true_or, or_true,  if_true, if_false, Bool.false_eq_true, aft_v, aft_n, aftN_v, aftN_n, qwV_s, qwV_0, bI_if, bI_ok, bI_ok0, bI_ok1, true_and, s95, s96, h1, q1, aft_x mH_82, hK]
  · cases q3 : inR a1 a3 (nI 39)
    · simp only [t_82_0, t_82_1, t_82_4, t_82_5, t_82_6, t_82_9, t_82_10, t_82_12, t_82_14, t_82_17, t_82_18, t_82_20, t_82_22, t_82_25, t_82_26, t_82_28, t_82_30, t_82_33, t_82_34, t_82_37, t_82_40, t_82_42, t_82_45, t_82_55, t_82_56, t_82_59, t_82_62, t_82_63, t_82_64, t_82_65, t_82_66, t_82_68, t_82_70, t_82_72, t_82_75, t_82_78, t_82_79, t_82_80, t_82_83, t_82_86, t_82_87, t_82_88, decide_true, decide_false, Bool.not_true, Bool.not_false, Nat.reduceLeDiff, Nat.reduceSub, z0_t, z1_f, z1_t, true_or, or_true,  if_true, if_false, Bool.false_eq_true, aft_v, aft_n, aftN_v, aftN_n, qwV_s, qwV_0, bI_if, bI_ok, bI_ok0, bI_ok1, true_and, s95, s96, s98, h1, q1, q3, aft_x mH_82, hK]
    · cases q4 : inR a2 a4 (nI 39)
      · simp only [t_82_0, t_82_1, t_82_4, t_82_5, t_82_6, t_82_9, t_82_10, t_82_12, t_82_14, t_82_17, t_82_18, t_82_20, t_82_22, t_82_25, t_82_26, t_82_28, t_82_30, t_82_33, t_82_34, t_82_37, t_82_40, t_82_42, t_82_45, t_82_55, t_82_56, t_82_59, t_82_62, t_82_63, t_82_64, t_82_65, t_82_66, t_82_68, t_82_70, t_82_72, t_82_75, t_82_78, t_82_79, t_82_80, t_82_83, t_82_86, t_82_87, t_82_88, decide_true, decide_false, Bool.not_true, Bool.not_false, Nat.reduceLeDiff, Nat.reduceSub, z0_t, z1_f, z1_t, true_or, or_true,  if_true, if_false, Bool.false_eq_true, aft_v, aft_n, aftN_v, aftN_n, qwV_s, qwV_0, bI_if, bI_ok, bI_ok0, bI_ok1, true_and, s95, s96, s98, h1, q1, q3, q4, aft_x mH_82, hK]
      · cases q5 : inR (-1) a5 (nI 39)
        · simp only [t_82_0, t_82_1, t_82_4, t_82_5, t_82_6, t_82_9, t_82_10, t_82_12, t_82_14, t_82_17, t_82_18, t_82_20, t_82_22, t_82_25, t_82_26, t_82_28, t_82_30, t_82_33, t_82_34, t_82_37, t_82_40, t_82_42, t_82_45, t_82_55, t_82_56, t_82_59, t_82_62, t_82_63, t_82_64, t_82_65, t_82_66, t_82_68, t_82_70, t_82_72, t_82_75, t_82_78, t_82_79, t_82_80, t_82_83, t_82_86, t_82_87, t_82_88, decide_true, decide_false, Bool.not_true, Bool.not_false, Nat.reduceLeDiff, Nat.reduceSub, z0_t, z1_f, z1_t, true_or, or_true,  if_true, if_false, Bool.false_eq_true, aft_v, aft_n, aftN_v, aftN_n, qwV_s, qwV_0, bI_if, bI_ok, bI_ok0, bI_ok1, true_and, s95, s96, s98, h1, q1, q3, q4, q5, aft_x mH_82, hK]
        · unfold shOk at h2
          rw [q1, q3, q4, q5] at h2
          cases h2
theorem s82f (h : Lay x l n) {a0 a1 a2 a3 a4 a5 : Int32} (h1 : isc a0 = true) (h2 : shOk a1 a2 a3 a4 a5 = true) (h3 : n.2.2.1 = 6) (hK : K (.inr 3) (Wo x l n c)) : CL x 82 [.ref (l.1 0 0), .int a0, .int a1, .int a2, .int a3, .int a4, .int a5] (Wo x l n c) K := by
  obtain ⟨q1, q2⟩ := (Bool.and_eq_true _ _).mp h2
  obtain ⟨q3, q4⟩ := (Bool.and_eq_true _ _).mp q2
  obtain ⟨q5, q6⟩ := (Bool.and_eq_true _ _).mp q4
  rw [CL_82]
  simp only [t_82_0, t_82_1, t_82_4, t_82_5, t_82_6, t_82_9, t_82_10, t_82_12, t_82_14, t_82_17, t_82_18, t_82_20, t_82_22, t_82_25, t_82_26, t_82_28, t_82_30, t_82_33, t_82_34, t_82_37, t_82_40, t_82_42, t_82_45, t_82_55, t_82_56, t_82_59, t_82_62, t_82_63, t_82_64, t_82_65, t_82_66, t_82_68, t_82_70, t_82_72, t_82_75, t_82_78, t_82_79, t_82_80, t_82_83, t_82_86, t_82_87, t_82_88, decide_true, decide_false, Bool.not_true, Bool.not_false, Nat.reduceLeDiff, Nat.reduceSub, z0_t, z1_f, z1_t, true_or, or_true,  if_true, if_false, Bool.false_eq_true, aft_v, aft_n, aftN_v, aftN_n, qwV_s, qwV_0, bI_if, bI_ok, bI_ok0, bI_ok1, true_and, k_0 h, k_1 h, k_2 h, k_4 h, k_5 h, k_7 h, s95, s96, s98, h1, q1, q3, q5, q6, f_0_2 h, s6s h, h3, if_neg (lt_f (Nat.le_refl 6) (show 6 < 2 ^ 31 by decide)), hK]
end
