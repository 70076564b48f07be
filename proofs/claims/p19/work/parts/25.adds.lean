/-! calls that make something -/
def lput (l : Ly) (k i o : Nat) : Ly := (fun k' i' => if k' = k ∧ i' = i then o else l.1 k' i', fun a => if a = o then some (k, i) else l.2 a)
def lset (l : Ly) (k i o : Nat) : Ly := (fun k' i' => if k' = k ∧ i' = i then o else l.1 k' i', l.2)
def LyE (l l' : Ly) : Prop := l'.1 0 0 = l.1 0 0 ∧ l'.1 18 0 = l.1 18 0 ∧ l'.1 19 0 = l.1 19 0 ∧ l'.1 20 0 = l.1 20 0 ∧ l'.1 21 0 = l.1 21 0
section
variable {x : Cx} {l l' : Ly} {n n' : Nn} {c c' : Cc} {B B' : Nat → Nat} {k i o : Nat} {w : Wd} {K : Po}
theorem LayB_put (h : LayB x l B) (ho : l.2 o = none) (hE : o ≠ xE x) (hB : o ≠ xB x) (hi : i = B k) : LayB x (lput l k i o) (fun k' => if k' = k then B k + 1 else B k') := by
  refine ⟨fun k' i' q => ?_, fun a k' i' q => ?_, ?_, ?_⟩
  · show (if (if k' = k ∧ i' = i then o else l.1 k' i') = o then some (k, i) else l.2 (if k' = k ∧ i' = i then o else l.1 k' i')) = _
    by_cases e : k' = k ∧ i' = i
    · rw [if_pos e, if_pos rfl, e.1, e.2]
    · have q' : i' < B k' := by
        by_cases e1 : k' = k
        · subst e1
          have : i' < B k' + 1 := by simpa using q
          have : i' ≠ i := fun z => e ⟨rfl, z⟩
          omega
        · simpa [e1] using q
      have t := h.1 k' i' q'
      rw [if_neg e, if_neg (fun z => by rw [z, ho] at t; cases t), t]
  · have q : (if a = o then some (k, i) else l.2 a) = some (k', i') := q
    show i' < (if k' = k then B k + 1 else B k') ∧ (if k' = k ∧ i' = i then o else l.1 k' i') = a
    by_cases e : a = o
    · rw [if_pos e] at q
      simp only [Option.some.injEq, Prod.mk.injEq] at q
      obtain ⟨rfl, rfl⟩ := q
      simp only [and_self, if_true, e, and_true]
      rw [hi]
      exact Nat.lt_succ_self _
    · rw [if_neg e] at q
      obtain ⟨t1, t2⟩ := h.2.1 a k' i' q
      have e1 : ¬ (k' = k ∧ i' = i) := by rintro ⟨rfl, rfl⟩; omega
      rw [if_neg e1]
      refine ⟨?_, t2⟩
      split
      · next z => subst z; omega
      · exact t1
  · exact (if_neg (Ne.symm hE)).trans h.2.2.1
  · exact (if_neg (Ne.symm hB)).trans h.2.2.2
theorem LayB_set (h : LayB x l B) (hi : ¬ i < B k) : LayB x (lset l k i o) B := by
  have e : ∀ k' i', i' < B k' → ¬ (k' = k ∧ i' = i) := by
    rintro k' i' q ⟨rfl, rfl⟩
    exact hi q
  refine ⟨fun k' i' q => ?_, fun a k' i' q => ?_, h.2.2.1, h.2.2.2⟩
  · show l.2 (if k' = k ∧ i' = i then o else l.1 k' i') = _
    rw [if_neg (e k' i' q), h.1 k' i' q]
  · obtain ⟨t1, t2⟩ := h.2.1 a k' i' q
    refine ⟨t1, ?_⟩
    show (if k' = k ∧ i' = i then o else l.1 k' i') = a
    rw [if_neg (e k' i' t1), t2]
theorem LayB_cg (h : LayB x l B) (e : ∀ k, B k = B' k) : LayB x l B' := by rw [← funext e]; exact h
theorem Wo_fr (h : frs x (Wo x l n c) o) : l.2 o = none := by
  have h1 := h.1
  unfold Wo at h1
  cases q : l.2 o with
  | none => rfl
  | some v => rw [q] at h1; cases h1
theorem Wo_of {w' : Wd} (h : ∀ b, w' b = match l'.2 b with | some q => some (ct x l' n' c' q.1 q.2) | none => none) : w' = Wo x l' n' c' := funext h
theorem lput_1 : (lput l k i o).1 k i = o := if_pos ⟨rfl, rfl⟩
theorem lput_n {k' i' : Nat} (h : ¬ (k' = k ∧ i' = i)) : (lput l k i o).1 k' i' = l.1 k' i' := if_neg h
theorem lput_t : (lput l k i o).2 o = some (k, i) := if_pos rfl
theorem lput_u {a : Nat} (h : a ≠ o) : (lput l k i o).2 a = l.2 a := if_neg h
def nmF (a b d e : Int32) : Nat → Int32 := fun j => match j with
  | 0 => a
  | 1 => b
  | 2 => d
  | _ => e
/-- what doesn't speak of the names' number is the same -/
theorem ct_nm {N : Nat} (hl : ∀ k i, ¬ (k = 12 ∧ i = N) → k ≠ 6 → l'.1 k i = l.1 k i) {f : Nat → Int32} (h5 : k ≠ 5) (h6 : k ≠ 6) (h12 : ¬ (k = 12 ∧ i = N)) : ct x l' (n.1, N + 1, n.2.2) (cu c 12 N f) k i = ct x l n c k i := by
  have e : cu c 12 N f k i = c k i := if_neg h12
  unfold ct
  split <;> first | exact absurd rfl h5 | exact absurd rfl h6 | simp [e, hl]
theorem el_nm {N : Nat} {g : Nat → Nat} {g' : Nat → Nat} {o : Nat} (hg : ∀ j, j < N → g' j = g j) (ho : g' N = o) : (va_up (fun j => if j < N then some (g j) else none) N (some o)) = (fun j => if j < N + 1 then some (g' j) else none) := by
  funext j
  unfold va_up
  by_cases e : j = N
  · rw [if_pos e, if_pos (by omega), e, ho]
  · rw [if_neg e]
    by_cases e2 : j < N
    · show (if j < N then some (g j) else none) = _
      rw [if_pos e2, if_pos (by omega), hg j e2]
    · show (if j < N then some (g j) else none) = _
      rw [if_neg e2, if_neg (by omega)]
theorem Wo_fin {w' : Wd} (h' : LayB x l' B') (h1 : ∀ k i, i < B' k → w' (l'.1 k i) = some (ct x l' n' c' k i)) (h2 : ∀ b, l'.2 b = none → w' b = none) : w' = Wo x l' n' c' := by
  refine Wo_of (fun b => ?_)
  cases q : l'.2 b with
  | none => exact h2 b q
  | some v =>
    obtain ⟨k, i⟩ := v
    obtain ⟨t1, t2⟩ := h'.2.1 b k i q
    rw [← t2]
    exact h1 k i t1
theorem Wo_no (h : l.2 o = none) : Wo x l n c o = none := by unfold Wo; rw [h]
theorem bd_nm {N : Nat} (hN : n.2.1 = N) (hi : i < bd (n.1, N + 1, n.2.2) k) (h12 : ¬ (k = 12 ∧ i = N)) (h6 : k ≠ 6) : i < bd n k := by
  subst hN
  revert hi
  unfold bd
  split <;> first | exact id | exact absurd rfl h6 | (simp only [true_and] at h12; intro hi; have hi' : i < n.2.1 + 1 := hi; omega)
theorem fin_nm {N e : Nat} {w' : Wd} {f : Nat → Int32} (h : Lay x l n) (hN : n.2.1 = N) (h' : Lay x l' (n.1, N + 1, n.2.2)) (hl : ∀ k i, ¬ (k = 12 ∧ i = N) → k ≠ 6 → l'.1 k i = l.1 k i) (ho : l'.1 12 N = o) (he : l'.1 6 0 = e) (ho' : l.2 o = none) (he' : l.2 e = none ∨ n.2.1 ≠ 0 ∧ e = l.1 6 0) (ht : ∀ b, l'.2 b = none → l.2 b = none ∧ b ≠ o ∧ b ≠ e)
    (w1 : w' (l.1 5 0) = some (eO 0 [.int (nI (N + 1)), .ref e, .int (nI (N + 1))])) (w2 : w' e = some (eQ x 10 (va_up (fun j => if j < N then some (l.1 12 j) else none) N (some o)))) (w3 : w' o = some (eO 1 [.int (f 0), .int (f 1), .int (f 2), .int (f 3)])) (w4 : ∀ b, b ≠ l.1 5 0 → b ≠ e → b ≠ o → w' b = Wo x l n c b) : w' = Wo x l' (n.1, N + 1, n.2.2) (cu c 12 N f) := by
  refine Wo_fin h' (fun k i hi => ?_) (fun b hb => ?_)
  · by_cases q12 : k = 12 ∧ i = N
    · obtain ⟨rfl, rfl⟩ := q12
      rw [ho, w3]
      unfold ct
      simp only [cu_s]
    · by_cases q6 : k = 6
      · subst q6
        have : i = 0 := by
          have hi' : i < (if N + 1 = 0 then 0 else 1) := hi
          rw [if_neg (by omega)] at hi'
          omega
        subst this
        rw [he, w2]
        refine congrArg some (congrArg (eQ x 10) ?_)
        exact el_nm (fun j hj => hl 12 j (by omega) (by decide)) ho
      · have hi2 := bd_nm hN hi q12 q6
        by_cases q5 : k = 5
        · subst q5
          have : i = 0 := by
            have hi' : i < 1 := hi2
            omega
          subst this
          rw [hl 5 0 (by omega) (by decide), w1]
          unfold ct
          simp [he]
        · have hk := hl k i q12 q6
          have t := h.1 k i hi2
          rw [hk, w4, Wo_get h hi2, ct_nm hl q5 q6 q12]
          · intro z
            rw [z, h.1 5 0 (show 0 < 1 by decide)] at t
            simp only [Option.some.injEq, Prod.mk.injEq] at t
            omega
          · rintro rfl
            rcases he' with z | ⟨z, z2⟩
            · rw [z] at t; cases t
            · rw [z2, h.1 6 0 (show 0 < (if n.2.1 = 0 then 0 else 1) by rw [if_neg z]; decide)] at t
              simp only [Option.some.injEq, Prod.mk.injEq] at t
              omega
          · rintro rfl
            rw [ho'] at t; cases t
  · obtain ⟨t1, t2, t3⟩ := ht b hb
    rw [w4 b ?_ t3 t2, Wo_no t1]
    intro z
    rw [z, h.1 5 0 (show 0 < 1 by decide)] at t1
    cases t1
theorem s55w (h : Lay x l n) (hN : n.2.1 < 10) (ho : frs x (Wo x l n c) o) {f : Nat → Int32} (hK : ∀ l' : Ly, Lay x l' (n.1, n.2.1 + 1, n.2.2) → LyE l l' → l'.1 0 1 = l.1 0 1 → l'.1 9 n.1 = l.1 9 n.1 → K (.inl none) (Wo x l' (n.1, n.2.1 + 1, n.2.2) (cu c 12 n.2.1 f))) : CL x 55 [.ref (l.1 4 0), .ref o] (va_up (Wo x l n c) o (some (eO 1 [.int (f 0), .int (f 1), .int (f 2), .int (f 3)]))) K := by
  have t0 := Wo_fr ho
  have ne : ∀ k i, i < bd n k → l.1 k i ≠ o := fun k i q z => by
    have := h.1 k i q
    rw [z, t0] at this
    cases this
  have n4 := ne 4 0 (show 0 < 1 by decide)
  have n5 := ne 5 0 (show 0 < 1 by decide)
  have hL0 := LayB_put h t0 ho.2.1 ho.2.2 (show n.2.1 = bd n 12 from rfl)
  rw [CL_55]
  simp only [t_55_0, t_55_1, t_55_4, t_55_5, t_55_8, t_55_9, decide_true, decide_false, Bool.not_true, Bool.not_false, Nat.reduceLeDiff, Nat.reduceSub, z0_t, z1_f, z1_t, true_or, or_true,  if_true, if_false, Bool.false_eq_true, aft_v, aft_n, aftN_v, aftN_n, qwV_s, qwV_0, bI_if, bI_ok, bI_ok0, bI_ok1, true_and, va_up_ne _ _ n4, va_up_ne _ _ n5, f_4_0 h, k_5 h]
  have hr : qwK (va_up (Wo x l n c) o (some (eO 1 [.int (f 0), .int (f 1), .int (f 2), .int (f 3)])) o) 4 ∨ qwK (va_up (Wo x l n c) o (some (eO 1 [.int (f 0), .int (f 1), .int (f 2), .int (f 3)])) o) 1 ∨ qwK (va_up (Wo x l n c) o (some (eO 1 [.int (f 0), .int (f 1), .int (f 2), .int (f 3)])) o) 6 := by
    rw [va_up_self]
    exact Or.inr (Or.inl rfl)
  have g5 := g_5 h (c := c)
  by_cases q0 : n.2.1 = 0
  · rw [if_pos q0, q0] at g5
    refine s10b (by rw [va_up_ne _ _ n5, g5]) (by rw [va_up_ne _ _ (Ne.symm ho.2.1), Wo_E h]) hr (Ne.symm n5) (fun e w' he w1 w2 w3 => ?_)
    obtain ⟨m1, he⟩ := fr_up he
    have te := Wo_fr he
    have hL1 := LayB_put hL0 (o := e) (k := 6) (i := 0) (by rw [lput_u m1, te]) he.2.1 he.2.2 (by simp [bd, q0])
    have hL : Lay x (lput (lput l 12 n.2.1 o) 6 0 e) (n.1, n.2.1 + 1, n.2.2) := LayB_cg hL1 (fun k => by
      by_cases e1 : k = 6
      · subst e1; simp [bd, q0]
      · by_cases e2 : k = 12
        · subst e2; simp [bd]
        · simp only [e1, e2, if_false]
          unfold bd
          split <;> first | rfl | exact absurd rfl e1 | exact absurd rfl e2)
    have fin := fin_nm (l' := lput (lput l 12 n.2.1 o) 6 0 e) (f := f) (c := c) h rfl hL (o := o) (e := e) (w' := w') (fun k i z1 z2 => by rw [lput_n (fun z => z2 z.1), lput_n z1]) (by rw [lput_n (by omega), lput_1]) lput_1 t0 (Or.inl te) (fun b hb => by
      by_cases b1 : b = e
      · rw [b1, lput_t] at hb; cases hb
      · rw [lput_u b1] at hb
        by_cases b2 : b = o
        · rw [b2, lput_t] at hb; cases hb
        · rw [lput_u b2] at hb
          exact ⟨hb, b2, b1⟩) (by rw [w1, q0]) (by
        rw [w2, q0]
        rfl) (by rw [w3 o (Ne.symm n5) (Ne.symm m1), va_up_self]) (fun b b1 b2 b3 => by rw [w3 b b1 b2, va_up_ne _ _ b3])
    have := hK _ hL ⟨by rw [lput_n (by omega), lput_n (by omega)], by rw [lput_n (by omega), lput_n (by omega)], by rw [lput_n (by omega), lput_n (by omega)], by rw [lput_n (by omega), lput_n (by omega)], by rw [lput_n (by omega), lput_n (by omega)]⟩ (by rw [lput_n (by omega), lput_n (by omega)]) (by rw [lput_n (by omega), lput_n (by omega)])
    rw [fin]
    simp only [t_55_0, t_55_1, t_55_4, t_55_5, t_55_8, t_55_9, decide_true, decide_false, Bool.not_true, Bool.not_false, Nat.reduceLeDiff, Nat.reduceSub, z0_t, z1_f, z1_t, true_or, or_true,  if_true, if_false, Bool.false_eq_true, aft_v, aft_n, aftN_v, aftN_n, qwV_s, qwV_0, bI_if, bI_ok, bI_ok0, bI_ok1, true_and, this]
  · rw [if_neg q0] at g5
    have n6 := ne 6 0 (show 0 < (if n.2.1 = 0 then 0 else 1) by rw [if_neg q0]; decide)
    have e65 := ad_ne h (k := 6) (i := 0) (k' := 5) (i' := 0) (show 0 < (if n.2.1 = 0 then 0 else 1) by rw [if_neg q0]; decide) (show 0 < 1 by decide) (Or.inl (by decide))
    refine s10a (by rw [va_up_ne _ _ n5, g5]) (by rw [va_up_ne _ _ n6, g_6 h q0]) hr hN (Ne.symm n5) (Ne.symm n6) e65 (fun w' w1 w2 w3 => ?_)
    have hL : Lay x (lput l 12 n.2.1 o) (n.1, n.2.1 + 1, n.2.2) := LayB_cg hL0 (fun k => by
      by_cases e2 : k = 12
      · subst e2; simp [bd]
      · by_cases e1 : k = 6
        · subst e1; simp [bd, q0]
        · simp only [e2, if_false]
          unfold bd
          split <;> first | rfl | exact absurd rfl e1 | exact absurd rfl e2)
    have fin := fin_nm (l' := lput l 12 n.2.1 o) (f := f) (c := c) h rfl hL (o := o) (e := l.1 6 0) (w' := w') (fun k i z1 z2 => lput_n z1) lput_1 (lput_n (by omega)) t0 (Or.inr ⟨q0, rfl⟩) (fun b hb => by
      by_cases b2 : b = o
      · rw [b2, lput_t] at hb; cases hb
      · rw [lput_u b2] at hb
        refine ⟨hb, b2, fun z => ?_⟩
        rw [z, h.1 6 0 (show 0 < (if n.2.1 = 0 then 0 else 1) by rw [if_neg q0]; decide)] at hb
        cases hb) w1 w2 (by rw [w3 o (Ne.symm n5) (Ne.symm n6), va_up_self]) (fun b b1 b2 b3 => by rw [w3 b b1 b2, va_up_ne _ _ b3])
    have := hK _ hL ⟨lput_n (by omega), lput_n (by omega), lput_n (by omega), lput_n (by omega), lput_n (by omega)⟩ (lput_n (by omega)) (lput_n (by omega))
    rw [fin]
    simp only [t_55_0, t_55_1, t_55_4, t_55_5, t_55_8, t_55_9, decide_true, decide_false, Bool.not_true, Bool.not_false, Nat.reduceLeDiff, Nat.reduceSub, z0_t, z1_f, z1_t, true_or, or_true,  if_true, if_false, Bool.false_eq_true, aft_v, aft_n, aftN_v, aftN_n, qwV_s, qwV_0, bI_if, bI_ok, bI_ok0, bI_ok1, true_and, this]
end
