def absI (v : Int32) : Int32 := if 0 ≤ v then v else 0 - v
/-- twice the area of a triangle of places -/
def triP (f : Nat → Int32) (p a b : Nat) : Int32 := absI ((xO (f b) - xO (f p)) * (yO (f a) - yO (f p)) - (yO (f b) - yO (f p)) * (xO (f a) - xO (f p)))
/-- the point of the set at or ahead of a -/
def ahd (s : Int32) : Nat → Nat
  | 0 => 0
  | a + 1 => if hs s (nI (a + 1)) = true then a + 1 else ahd s a
/-- the point of the set at or behind b, or b + d -/
def bhd (s : Int32) : Nat → Nat → Nat
  | 0, b => b
  | d + 1, b => if hs s (nI b) = true then b else bhd s d (b + 1)
theorem ahd_s {s : Int32} {a : Nat} : ahd s (a + 1) = if hs s (nI (a + 1)) = true then a + 1 else ahd s a := rfl
theorem bhd_s {s : Int32} {d b : Nat} : bhd s (d + 1) b = if hs s (nI b) = true then b else bhd s d (b + 1) := rfl
theorem ahd_le {s : Int32} : ∀ {a : Nat}, ahd s a ≤ a
  | 0 => Nat.le_refl 0
  | a + 1 => by
    unfold ahd
    split
    · exact Nat.le_refl _
    · exact Nat.le_succ_of_le ahd_le
theorem bhd_le {s : Int32} : ∀ {d b : Nat}, b ≤ bhd s d b ∧ bhd s d b ≤ b + d
  | 0, b => ⟨Nat.le_refl b, Nat.le_refl b⟩
  | d + 1, b => by
    have := bhd_le (s := s) (d := d) (b := b + 1)
    unfold bhd
    split
    · exact ⟨Nat.le_refl b, by omega⟩
    · omega
theorem cu_c {c : Cc} {k i k' i' : Nat} {f g : Nat → Int32} (h : k ≠ k') : cu (cu c k i f) k' i' g = cu (cu c k' i' g) k i f := by
  funext a b
  unfold cu
  by_cases h1 : a = k' ∧ b = i'
  · rw [if_pos h1, if_neg (fun q => h (q.1.symm.trans h1.1)), if_pos h1]
  · rw [if_neg h1, if_neg h1]
theorem cu_4 {c : Cc} {k i k' i' : Nat} {f g f' g' : Nat → Int32} (h : k ≠ k') : cu (cu (cu (cu c k i f) k' i' g) k i f') k' i' g' = cu (cu c k i f') k' i' g' := by
  rw [cu_c h, cu_cu, cu_c (Ne.symm h), cu_cu]
section
variable {x : Cx} {l : Ly} {n : Nn} {c : Cc} {i q q' s z mc ms : Nat} {K post : Po}
theorem s29_l (h : Lay x l n) (hi : q < n.2.2.1 + 1) (hi' : q' < n.2.2.1 + 1) {r : Nat} (hr : r < 8) : ∀ (d j : Nat), j + d = 8 → WP x 29 2 [some (.ref (l.1 14 q)), some (.int (nI r)), some (.ref (l.1 14 q')), some (.int (nI j))] [] (Wo x l n c) mc ms post = post (.inl (some (.int (bI (!anyB (fun j => !decide (c 17 q (r * 8 + j) = c 17 q' (r * 8 + j))) d j))))) (Wo x l n c)
  | 0, j, hj => by
    simp only [t_29_0, t_29_1, t_29_2, t_29_3, t_29_5, t_29_8, t_29_9, t_29_10, t_29_11, t_29_14, t_29_15, t_29_16, t_29_17, t_29_20, t_29_23, t_29_24, t_29_25, t_29_28, t_29_31, t_29_32, decide_true, decide_false, Bool.not_true, Bool.not_false, Nat.reduceLeDiff, Nat.reduceSub, z0_t, z1_f, z1_t, true_or, or_true,  if_true, if_false, Bool.false_eq_true, aft_v, aft_n, aftN_v, aftN_n, qwV_s, qwV_0, bI_if, bI_ok, bI_ok0, bI_ok1, true_and, if_pos (le_t (show 8 ≤ j by omega) (show j < 2 ^ 31 by omega)), anyB_0, Bool.not_false, bI_t]
  | d + 1, j, hj => by
    have ih := s29_l h hi hi' hr d (j + 1) (by omega)
    rw [t_29_2]
    simp only [t_29_0, t_29_1, t_29_3, t_29_5, t_29_8, t_29_9, t_29_10, t_29_11, t_29_14, t_29_15, t_29_16, t_29_17, t_29_20, t_29_23, t_29_24, t_29_25, t_29_28, t_29_31, t_29_32, decide_true, decide_false, Bool.not_true, Bool.not_false, Nat.reduceLeDiff, Nat.reduceSub, z0_t, z1_f, z1_t, true_or, or_true,  if_true, if_false, Bool.false_eq_true, aft_v, aft_n, aftN_v, aftN_n, qwV_s, qwV_0, bI_if, bI_ok, bI_ok0, bI_ok1, true_and, if_neg (le_f (show j < 8 by omega) (by decide)), k_14 h hi, k_14 h hi', s27 h hi, s27 h hi', pk_mul, nI_add, rdA_in (show r * 8 + j < 64 by omega) (show 64 < 2 ^ 31 by decide), ih]
    rw [anyB_s]
    by_cases q : c 17 q (r * 8 + j) = c 17 q' (r * 8 + j) <;> simp [q, bI_f]
theorem s29 (h : Lay x l n) (hi : q < n.2.2.1 + 1) (hi' : q' < n.2.2.1 + 1) {r : Nat} (hr : r < 8) : CL x 29 [.ref (l.1 14 q), .int (nI r), .ref (l.1 14 q')] (Wo x l n c) K = K (.inl (some (.int (bI (!anyB (fun j => !decide (c 17 q (r * 8 + j) = c 17 q' (r * 8 + j))) 8 0))))) (Wo x l n c) := by
  rw [CL_29]
  simp only [t_29_0, t_29_1, s29_l h hi hi' hr 8 0 rfl]
theorem s28_l (h : Lay x l n) (hi : q < n.2.2.1 + 1) (hi' : q' < n.2.2.1 + 1) : ∀ (d j : Nat) (a : Int32), j + d = 10 → WP x 28 4 [some (.ref (l.1 14 q)), some (.ref (l.1 14 q')), some (.int a), some (.int (nI j))] [] (Wo x l n c) mc ms post = WP x 28 4 [some (.ref (l.1 14 q)), some (.ref (l.1 14 q')), some (.int (cntI (fun j => !decide (c 15 q j = c 15 q' j)) d j a)), some (.int (nI 10))] [] (Wo x l n c) mc ms post
  | 0, j, a, hj => by
    rw [show j = 10 by omega, cntI_0]
  | d + 1, j, a, hj => by
    have ih := fun a => s28_l h hi hi' d (j + 1) a (by omega)
    rw [cntI_s, ← ih, t_28_4]
    simp only [t_28_0, t_28_1, t_28_2, t_28_3, t_28_5, t_28_7, t_28_10, t_28_11, t_28_12, t_28_15, t_28_16, t_28_17, t_28_20, t_28_23, t_28_26, t_28_29, decide_true, decide_false, Bool.not_true, Bool.not_false, Nat.reduceLeDiff, Nat.reduceSub, z0_t, z1_f, z1_t, true_or, or_true,  if_true, if_false, Bool.false_eq_true, aft_v, aft_n, aftN_v, aftN_n, qwV_s, qwV_0, bI_if, bI_ok, bI_ok0, bI_ok1, true_and, if_neg (le_f (show j < 10 by omega) (by decide)), k_14 h hi, k_14 h hi', s26 h hi, s26 h hi', nI_add, rdA_in (show j < 10 by omega) (show 10 < 2 ^ 31 by decide)]
    by_cases q : c 15 q j = c 15 q' j <;> simp [q]
theorem s28_m (h : Lay x l n) (hi : q < n.2.2.1 + 1) (hi' : q' < n.2.2.1 + 1) : ∀ (d j : Nat) (a : Int32), j + d = 8 → WP x 28 34 [some (.ref (l.1 14 q)), some (.ref (l.1 14 q')), some (.int a), some (.int (nI j))] [] (Wo x l n c) mc ms post = WP x 28 34 [some (.ref (l.1 14 q)), some (.ref (l.1 14 q')), some (.int (cntI (fun r => anyB (fun j => !decide (c 17 q (r * 8 + j) = c 17 q' (r * 8 + j))) 8 0) d j a)), some (.int (nI 8))] [] (Wo x l n c) mc ms post
  | 0, j, a, hj => by
    rw [show j = 8 by omega, cntI_0]
  | d + 1, j, a, hj => by
    have ih := fun a => s28_m h hi hi' d (j + 1) a (by omega)
    rw [cntI_s, ← ih, t_28_34]
    simp only [t_28_35, t_28_37, t_28_40, t_28_41, t_28_42, t_28_43, t_28_46, t_28_49, t_28_52, t_28_55, t_28_58, t_28_59, decide_true, decide_false, Bool.not_true, Bool.not_false, Nat.reduceLeDiff, Nat.reduceSub, z0_t, z1_f, z1_t, true_or, or_true,  if_true, if_false, Bool.false_eq_true, aft_v, aft_n, aftN_v, aftN_n, qwV_s, qwV_0, bI_if, bI_ok, bI_ok0, bI_ok1, true_and, if_neg (le_f (show j < 8 by omega) (by decide)), k_14 h hi, k_14 h hi', s29 h hi hi' (show j < 8 by omega), nI_add]
    cases anyB (fun k => !decide (c 17 q (j * 8 + k) = c 17 q' (j * 8 + k))) 8 0 <;> simp
/-- how many names and roads of two pictures differ -/
def diffs (f g u v : Nat → Int32) : Int32 := cntI (fun r => anyB (fun j => !decide (u (r * 8 + j) = v (r * 8 + j))) 8 0) 8 0 (cntI (fun j => !decide (f j = g j)) 10 0 (nI 0))
theorem s28 (h : Lay x l n) (hi : q < n.2.2.1 + 1) (hi' : q' < n.2.2.1 + 1) : CL x 28 [.ref (l.1 14 q), .ref (l.1 14 q')] (Wo x l n c) K = K (.inl (some (.int (diffs (c 15 q) (c 15 q') (c 17 q) (c 17 q'))))) (Wo x l n c) := by
  rw [CL_28]
  simp only [t_28_0, t_28_1, t_28_2, t_28_3, s28_l h hi hi' 10 0 _ rfl]
  rw [t_28_4]
  simp only [t_28_0, t_28_1, t_28_2, t_28_3, t_28_5, t_28_7, t_28_10, t_28_11, t_28_12, t_28_15, t_28_16, t_28_17, t_28_20, t_28_23, t_28_26, t_28_29, t_28_32, t_28_33, if_pos (le_t (Nat.le_refl 10) (show 10 < 2 ^ 31 by decide)), s28_m h hi hi' 8 0 _ rfl]
  rw [t_28_34]
  simp only [t_28_35, t_28_37, t_28_40, t_28_41, t_28_42, t_28_43, t_28_46, t_28_49, t_28_52, t_28_55, t_28_58, t_28_59, if_pos (le_t (Nat.le_refl 8) (show 8 < 2 ^ 31 by decide)), diffs]
theorem s30_l (h : Lay x l n) (hi : q < n.2.2.1 + 1) (hi' : q' < n.2.2.1 + 1) (hq : q' ≠ q) {l3 : Option Value} : ∀ (d j : Nat), j + d = 10 → WP x 30 2 [some (.ref (l.1 14 q)), some (.ref (l.1 14 q')), some (.int (nI j)), l3] [] (Wo x l n (cu (cu c 16 q (cp j (c 16 q) (c 16 q'))) 15 q (cp j (c 15 q) (c 15 q')))) mc ms post = WP x 30 2 [some (.ref (l.1 14 q)), some (.ref (l.1 14 q')), some (.int (nI 10)), l3] [] (Wo x l n (cu (cu c 16 q (cp 10 (c 16 q) (c 16 q'))) 15 q (cp 10 (c 15 q) (c 15 q')))) mc ms post
  | 0, j, hj => by
    rw [show j = 10 by omega]
  | d + 1, j, hj => by
    have ih := s30_l h hi hi' hq (l3 := l3) d (j + 1) (by omega)
    have e1 : ∀ f g, cu (cu c 16 q f) 15 q g 16 q' = c 16 q' := fun f g => (cu_k (by decide)).trans (cu_i hq)
    have e2 : ∀ f g, cu (cu c 16 q f) 15 q g 15 q' = c 15 q' := fun f g => (cu_i hq).trans (cu_k (by decide))
    have e3 : ∀ f g, cu (cu c 16 q f) 15 q g 16 q = f := fun f g => (cu_k (by decide)).trans cu_s
    rw [← ih, t_30_2]
    simp only [t_30_0, t_30_1, t_30_3, t_30_5, t_30_8, t_30_9, t_30_10, t_30_11, t_30_12, t_30_15, t_30_16, t_30_17, t_30_20, t_30_23, t_30_26, decide_true, decide_false, Bool.not_true, Bool.not_false, Nat.reduceLeDiff, Nat.reduceSub, z0_t, z1_f, z1_t, true_or, or_true,  if_true, if_false, Bool.false_eq_true, aft_v, aft_n, aftN_v, aftN_n, qwV_s, qwV_0, bI_if, bI_ok, bI_ok0, bI_ok1, true_and, if_neg (le_f (show j < 10 by omega) (by decide)), k_14 h hi, k_14 h hi', s25 h hi', s26 h hi', nI_add, rdA_in (show j < 10 by omega) (show 10 < 2 ^ 31 by decide), s23 h hi (show j < 10 by omega), cu_4 (show 16 ≠ 15 by decide), e1, e2, e3, cu_s, cp_u rfl]
theorem s30_m (h : Lay x l n) (hi : q < n.2.2.1 + 1) (hi' : q' < n.2.2.1 + 1) (hq : q' ≠ q) {r : Nat} (hr : r < 8) : ∀ (d j : Nat), j + d = 8 → WP x 30 39 [some (.ref (l.1 14 q)), some (.ref (l.1 14 q')), some (.int (nI r)), some (.int (nI j))] [] (Wo x l n (cu c 17 q (cp (r * 8 + j) (c 17 q) (c 17 q')))) mc ms post = WP x 30 39 [some (.ref (l.1 14 q)), some (.ref (l.1 14 q')), some (.int (nI r)), some (.int (nI 8))] [] (Wo x l n (cu c 17 q (cp ((r + 1) * 8) (c 17 q) (c 17 q')))) mc ms post
  | 0, j, hj => by
    rw [show j = 8 by omega, show (r + 1) * 8 = r * 8 + 8 by omega]
  | d + 1, j, hj => by
    have ih := s30_m h hi hi' hq hr d (j + 1) (by omega)
    rw [← ih, t_30_39]
    simp only [t_30_40, t_30_42, t_30_45, t_30_46, t_30_47, t_30_48, t_30_49, t_30_50, t_30_51, t_30_54, t_30_57, t_30_60, decide_true, decide_false, Bool.not_true, Bool.not_false, Nat.reduceLeDiff, Nat.reduceSub, z0_t, z1_f, z1_t, true_or, or_true,  if_true, if_false, Bool.false_eq_true, aft_v, aft_n, aftN_v, aftN_n, qwV_s, qwV_0, bI_if, bI_ok, bI_ok0, bI_ok1, true_and, if_neg (le_f (show j < 8 by omega) (by decide)), k_14 h hi, k_14 h hi', s27 h hi', pk_mul, nI_add, rdA_in (show r * 8 + j < 64 by omega) (show 64 < 2 ^ 31 by decide), s24 h hi hr (show j < 8 by omega), cu_i hq, cu_s, cu_cu, cp_u rfl, Nat.add_assoc]
theorem s30_n (h : Lay x l n) (hi : q < n.2.2.1 + 1) (hi' : q' < n.2.2.1 + 1) (hq : q' ≠ q) {R : Prop} (hR : ∀ l3, WP x 30 31 [some (.ref (l.1 14 q)), some (.ref (l.1 14 q')), some (.int (nI 8)), l3] [] (Wo x l n (cu c 17 q (cp 64 (c 17 q) (c 17 q')))) mc ms post = R) : ∀ (d r : Nat) (l3 : Option Value), r + d = 8 → WP x 30 31 [some (.ref (l.1 14 q)), some (.ref (l.1 14 q')), some (.int (nI r)), l3] [] (Wo x l n (cu c 17 q (cp (r * 8) (c 17 q) (c 17 q')))) mc ms post = R
  | 0, r, l3, hj => by
    rw [show r = 8 by omega]
    exact hR l3
  | d + 1, r, l3, hj => by
    have ih := fun l3 => s30_n h hi hi' hq hR d (r + 1) l3 (by omega)
    have e := s30_m h hi hi' hq (c := c) (mc := mc) (ms := ms) (post := post) (show r < 8 by omega) 8 0 rfl
    rw [Nat.add_zero] at e
    rw [t_30_31]
    simp only [t_30_32, t_30_34, t_30_37, t_30_38, if_neg (le_f (show r < 8 by omega) (show 8 < 2 ^ 31 by decide)), e]
    rw [t_30_39]
    simp only [t_30_40, t_30_42, t_30_63, t_30_66, if_pos (le_t (Nat.le_refl 8) (show 8 < 2 ^ 31 by decide)), nI_add, ih]
theorem s30 (h : Lay x l n) (hi : q < n.2.2.1 + 1) (hi' : q' < n.2.2.1 + 1) (hq : q' ≠ q) : CL x 30 [.ref (l.1 14 q), .ref (l.1 14 q')] (Wo x l n c) K = K (.inl none) (Wo x l n (cu (cu (cu c 16 q (cp 10 (c 16 q) (c 16 q'))) 15 q (cp 10 (c 15 q) (c 15 q'))) 17 q (cp 64 (c 17 q) (c 17 q')))) := by
  rw [CL_30]
  have e1 := s30_l h hi hi' hq (c := c) (mc := 0) (ms := 0) (post := K) (l3 := none) 10 0 rfl
  rw [cp_0, cp_0, cu_id, cu_id] at e1
  have a1 : ∀ q f g, cu (cu c 16 q f) 15 q g 17 = c 17 := fun q f g => by funext a; exact (cu_k (by decide)).trans (cu_k (by decide))
  have e2 := s30_n h hi hi' hq (c := cu (cu c 16 q (cp 10 (c 16 q) (c 16 q'))) 15 q (cp 10 (c 15 q) (c 15 q'))) (mc := 0) (ms := 0) (post := K) (R := K (.inl none) (Wo x l n (cu (cu (cu c 16 q (cp 10 (c 16 q) (c 16 q'))) 15 q (cp 10 (c 15 q) (c 15 q'))) 17 q (cp 64 (c 17 q) (c 17 q'))))) (fun l3 => by
    rw [t_30_31]
    simp only [t_30_32, t_30_34, t_30_69, a1, if_pos (le_t (Nat.le_refl 8) (show 8 < 2 ^ 31 by decide))]) 8 0 none rfl
  rw [Nat.zero_mul, cp_0, cu_id] at e2
  simp only [t_30_0, t_30_1, e1]
  rw [t_30_2]
  simp only [t_30_3, t_30_5, t_30_29, t_30_30, if_pos (le_t (Nat.le_refl 10) (show 10 < 2 ^ 31 by decide)), e2]
theorem s36 (h : Lay x l n) (hi : s < n.2.2.1) (hi' : q' < n.2.2.1 + 1) {b : Bool} (hb : c 13 s 7 = bI b) : CL x 36 [.ref (l.1 13 s), .ref (l.1 14 q')] (Wo x l n c) K = K (.inl (some (.int (if b = true then diffs (c 15 (s + 1)) (c 15 q') (c 17 (s + 1)) (c 17 q') else nI 0)))) (Wo x l n c) := by
  rw [CL_36]
  simp only [t_36_0, t_36_1, t_36_4, t_36_7, t_36_8, t_36_11, t_36_12, t_36_15, t_36_18, t_36_19, decide_true, decide_false, Bool.not_true, Bool.not_false, Nat.reduceLeDiff, Nat.reduceSub, z0_t, z1_f, z1_t, true_or, or_true,  if_true, if_false, Bool.false_eq_true, aft_v, aft_n, aftN_v, aftN_n, qwV_s, qwV_0, bI_if, bI_ok, bI_ok0, bI_ok1, true_and, f_13_7 h hi, f_13_6 h hi, hb, k_14 h (show s + 1 < n.2.2.1 + 1 by omega), s28 h (show s + 1 < n.2.2.1 + 1 by omega) hi', aft_v]
  cases b <;> rfl
def keepC (c : Cc) (s : Nat) (v : Int32) : Cc := cu (cu (cu (cu c 16 (s + 1) (cp 10 (c 16 (s + 1)) (c 16 0))) 15 (s + 1) (cp 10 (c 15 (s + 1)) (c 15 0))) 17 (s + 1) (cp 64 (c 17 (s + 1)) (c 17 0))) 13 s (upd (upd (c 13 s) 7 (nI 1)) 8 v)
theorem s37 (h : Lay x l n) (hi : s < n.2.2.1) {v : Int32} : CL x 37 [.ref (l.1 13 s), .ref (l.1 14 0), .int v] (Wo x l n c) K = K (.inl none) (Wo x l n (keepC c s v)) := by
  rw [CL_37]
  have a1 : ∀ q f g u, cu (cu (cu c 16 q f) 15 q g) 17 q u 13 = c 13 := fun q f g u => by funext a; exact (cu_k (by decide)).trans ((cu_k (by decide)).trans (cu_k (by decide)))
  have p1 := fun q f g u => p_13_7 h hi (c := cu (cu (cu c 16 q f) 15 q g) 17 q u) (v := nI 1)
  have p2 := fun q f g u => p_13_8 h hi (c := cu (cu (cu (cu c 16 q f) 15 q g) 17 q u) 13 s (upd (c 13 s) 7 (nI 1))) (v := v)
  simp only [a1] at p1
  simp only [cu_cu, cu_s] at p2
  simp only [t_37_0, t_37_1, t_37_4, t_37_5, t_37_8, t_37_9, t_37_10, t_37_13, t_37_14, t_37_15, t_37_18, decide_true, decide_false, Bool.not_true, Bool.not_false, Nat.reduceLeDiff, Nat.reduceSub, z0_t, z1_f, z1_t, true_or, or_true,  if_true, if_false, Bool.false_eq_true, aft_v, aft_n, aftN_v, aftN_n, qwV_s, qwV_0, bI_if, bI_ok, bI_ok0, bI_ok1, true_and, f_13_6 h hi, o_13 h hi, k_14 h (show s + 1 < n.2.2.1 + 1 by omega), s30 h (show s + 1 < n.2.2.1 + 1 by omega) (show 0 < n.2.2.1 + 1 by omega) (show 0 ≠ s + 1 by omega), List.length_cons, List.length_nil, List.set_cons_zero, List.set_cons_succ, Nat.reduceAdd, Nat.reduceLT, a1, p1, cu_s, p2, keepC]
theorem s50_l (h : Lay x l n) (hi : i < n.2.2.2) (hz : c 9 i 2 = nI z) (hz8 : z ≤ 8) (hs' : s < n.2.2.1) {S : Int32} : ∀ (d j : Nat), j + d = z → WP x 50 2 [some (.ref (l.1 9 i)), some (.ref (l.1 13 s)), some (.int S), some (.int (nI j))] [] (Wo x l n c) mc ms post = post (.inl (some (.int (bI (anyB (fun q => hs S (nI q) && onR (c 13 s 1) (c 13 s 2) (c 13 s 3) (c 13 s 4) (xO (c 10 i q)) (yO (c 10 i q))) d j))))) (Wo x l n c)
  | 0, j, hj => by
    simp only [t_50_0, t_50_1, t_50_2, t_50_3, t_50_4, t_50_7, t_50_10, t_50_11, t_50_12, t_50_15, t_50_18, t_50_19, t_50_20, t_50_21, t_50_24, t_50_27, t_50_30, t_50_31, t_50_32, t_50_35, t_50_38, t_50_39, f_9_2 h hi, hz, if_pos (le_t (show z ≤ j by omega) (show j < 2 ^ 31 by omega)), decide_true, decide_false, Bool.not_true, Bool.not_false, Nat.reduceLeDiff, Nat.reduceSub, z0_t, z1_f, z1_t, true_or, or_true,  if_true, if_false, Bool.false_eq_true, aft_v, aft_n, aftN_v, aftN_n, qwV_s, qwV_0, bI_if, bI_ok, bI_ok0, bI_ok1, true_and, anyB_0, bI_f]
  | d + 1, j, hj => by
    have ih := s50_l h hi hz hz8 hs' (S := S) d (j + 1) (by omega)
    rw [t_50_2]
    simp only [t_50_0, t_50_1, t_50_3, t_50_4, t_50_7, t_50_10, t_50_11, t_50_12, t_50_15, t_50_18, t_50_19, t_50_20, t_50_21, t_50_24, t_50_27, t_50_30, t_50_31, t_50_32, t_50_35, t_50_38, t_50_39, f_9_2 h hi, hz, if_neg (le_f (show j < z by omega) (show z < 2 ^ 31 by omega)), decide_true, decide_false, Bool.not_true, Bool.not_false, Nat.reduceLeDiff, Nat.reduceSub, z0_t, z1_f, z1_t, true_or, or_true,  if_true, if_false, Bool.false_eq_true, aft_v, aft_n, aftN_v, aftN_n, qwV_s, qwV_0, bI_if, bI_ok, bI_ok0, bI_ok1, true_and, s102, s41 h hi, k_9 h hi, k_13 h hs', s34 h hs', plc_in (show j < z by omega) hz8, nI_add, ih]
    rw [anyB_s]
    cases hs S (nI j) <;> cases onR (c 13 s 1) (c 13 s 2) (c 13 s 3) (c 13 s 4) (xO (c 10 i j)) (yO (c 10 i j)) <;> simp [bI_t]
theorem s50 (h : Lay x l n) (hi : i < n.2.2.2) (hz : c 9 i 2 = nI z) (hz8 : z ≤ 8) (hs' : s < n.2.2.1) {S : Int32} : CL x 50 [.ref (l.1 9 i), .ref (l.1 13 s), .int S] (Wo x l n c) K = K (.inl (some (.int (bI (anyB (fun q => hs S (nI q) && onR (c 13 s 1) (c 13 s 2) (c 13 s 3) (c 13 s 4) (xO (c 10 i q)) (yO (c 10 i q))) z 0))))) (Wo x l n c) := by
  rw [CL_50]
  simp only [t_50_0, t_50_1, s50_l h hi hz hz8 hs' z 0 (Nat.zero_add z)]
theorem s51_l {w : Wd} {S : Int32} {l0 l1 l4 l5 l6 l7 l8 : Option Value} : ∀ (a : Nat), a < 2 ^ 31 → WP x 51 4 [l0, l1, some (.int S), some (.int (nI a)), l4, l5, l6, l7, l8] [] w mc ms post = WP x 51 22 [l0, l1, some (.int S), some (.int (nI (ahd S a))), l4, l5, l6, l7, l8] [] w mc ms post
  | 0, ha => by
    rw [t_51_4]
    simp only [t_51_5, if_pos (show nI 0 ≤ 0 by decide), ahd]
  | a + 1, ha => by
    have ih := s51_l (w := w) (S := S) (l0 := l0) (l1 := l1) (l4 := l4) (l5 := l5) (l6 := l6) (l7 := l7) (l8 := l8) a (by omega)
    rw [t_51_4]
    simp only [t_51_5, t_51_8, t_51_9, t_51_10, t_51_13, t_51_16, t_51_19, decide_true, decide_false, Bool.not_true, Bool.not_false, Nat.reduceLeDiff, Nat.reduceSub, z0_t, z1_f, z1_t, true_or, or_true,  if_true, if_false, Bool.false_eq_true, aft_v, aft_n, aftN_v, aftN_n, qwV_s, qwV_0, bI_if, bI_ok, bI_ok0, bI_ok1, true_and, s102, pk_m1, ih, if_neg (nI_nle (Nat.succ_pos a) ha)]
    rw [ahd_s]
    cases hs S (nI (a + 1)) <;> simp
theorem s51_m (h : Lay x l n) (hi : i < n.2.2.2) (hz : c 9 i 2 = nI (z + 1)) (hz8 : z ≤ 8) {S : Int32} {l1 l3 l5 l6 l7 l8 : Option Value} : ∀ (d b : Nat), b + d = z → WP x 51 27 [some (.ref (l.1 9 i)), l1, some (.int S), l3, some (.int (nI b)), l5, l6, l7, l8] [] (Wo x l n c) mc ms post = WP x 51 53 [some (.ref (l.1 9 i)), l1, some (.int S), l3, some (.int (nI (bhd S d b))), l5, l6, l7, l8] [] (Wo x l n c) mc ms post
  | 0, b, ha => by
    rw [t_51_27]
    simp only [t_51_29, t_51_30, t_51_33, t_51_34, t_51_35, f_9_2 h hi, hz, nI_pred, show nI 1 = 1 from rfl, if_pos (le_t (show z ≤ b by omega) (show b < 2 ^ 31 by omega)), bhd]
  | d + 1, b, ha => by
    have ih := s51_m h hi hz hz8 (S := S) (l1 := l1) (l3 := l3) (l5 := l5) (l6 := l6) (l7 := l7) (l8 := l8) d (b + 1) (by omega)
    rw [t_51_27]
    simp only [t_51_29, t_51_30, t_51_33, t_51_34, t_51_35, t_51_38, t_51_39, t_51_41, t_51_44, t_51_47, t_51_50, f_9_2 h hi, hz, pk_sub (show 1 ≤ z + 1 by omega), Nat.add_sub_cancel, if_neg (le_f (show b < z by omega) (show z < 2 ^ 31 by omega)), decide_true, decide_false, Bool.not_true, Bool.not_false, Nat.reduceLeDiff, Nat.reduceSub, z0_t, z1_f, z1_t, true_or, or_true,  if_true, if_false, Bool.false_eq_true, aft_v, aft_n, aftN_v, aftN_n, qwV_s, qwV_0, bI_if, bI_ok, bI_ok0, bI_ok1, true_and, s102, nI_add, ih]
    rw [bhd_s]
    cases hs S (nI b) <;> simp
theorem s51 (h : Lay x l n) (hi : i < n.2.2.2) (hz : c 9 i 2 = nI z) (hz8 : z ≤ 8) {S : Int32} {p : Nat} (hp : 0 < p) (hp2 : p + 1 < z) : CL x 51 [.ref (l.1 9 i), .int (nI p), .int S] (Wo x l n c) K = K (.inl (some (.int (triP (c 10 i) p (ahd S (p - 1)) (bhd S (z - 1 - (p + 1)) (p + 1)))))) (Wo x l n c) := by
  rw [CL_51]
  have hz' : c 9 i 2 = nI (z - 1 + 1) := by rw [hz, show z - 1 + 1 = z by omega]
  have a1 : ahd S (p - 1) < z := Nat.lt_of_le_of_lt ahd_le (by omega)
  have b1 : bhd S (z - 1 - (p + 1)) (p + 1) < z := Nat.lt_of_le_of_lt bhd_le.2 (by omega)
  simp only [t_51_0, t_51_1, t_51_2, t_51_3, pk_sub (show 1 ≤ p by omega), s51_l (p - 1) (by omega), t_51_22, t_51_23, t_51_24, t_51_25, nI_add, s51_m h hi hz' (show z - 1 ≤ 8 by omega) (z - 1 - (p + 1)) (p + 1) (by omega)]
  simp only [t_51_53, t_51_54, t_51_55, t_51_58, t_51_61, t_51_62, t_51_63, t_51_66, t_51_69, t_51_70, t_51_72, t_51_73, t_51_74, t_51_77, t_51_80, t_51_81, t_51_82, t_51_85, t_51_88, t_51_89, t_51_91, t_51_92, t_51_94, t_51_97, t_51_100, t_51_101, t_51_102, t_51_105, t_51_108, t_51_109, t_51_111, t_51_112, t_51_114, t_51_117, t_51_120, t_51_121, t_51_122, t_51_125, t_51_128, t_51_129, t_51_131, t_51_133, t_51_135, t_51_136, t_51_138, t_51_140, t_51_141, t_51_142, t_51_145, decide_true, decide_false, Bool.not_true, Bool.not_false, Nat.reduceLeDiff, Nat.reduceSub, z0_t, z1_f, z1_t, true_or, or_true,  if_true, if_false, Bool.false_eq_true, aft_v, aft_n, aftN_v, aftN_n, qwV_s, qwV_0, bI_if, bI_ok, bI_ok0, bI_ok1, true_and, k_9 h hi, s41 h hi, s100, s101, hz, plc_in a1 hz8, plc_in b1 hz8, plc_in (show p < z by omega) hz8, triP, absI]
end
