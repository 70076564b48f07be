section
variable {n : Nn} {c d : Cc}
theorem Sc_cu {k i : Nat} {f : Fn1} (h : Sc c d) (hk : k ≠ 15 ∧ k ≠ 16 ∧ k ≠ 17 ∧ k ≠ 18) : Sc (cu c k i f) (cu d k i f) := by
  refine ⟨fun k' a1 a2 a3 a4 a5 a6 a7 => ?_, fun i' hi' => ?_, fun j hj => ?_⟩
  · funext i'
    unfold cu
    rw [h.1 k' a1 a2 a3 a4 a5 a6 a7]
  · rw [cu_k (by omega), cu_k (by omega), cu_k (by omega), cu_k (by omega), cu_k (by omega), cu_k (by omega)]
    exact h.2.1 i' hi'
  · rw [cu_k (by omega), cu_k (by omega)]
    exact h.2.2 j hj
theorem Sc_18 {f g : Fn1} (h : Sc c d) (hf : ∀ j, j ≠ 0 → g j = f j) : Sc (cu c 18 0 f) (cu d 18 0 g) := by
  refine ⟨fun k' a1 a2 a3 a4 a5 a6 a7 => ?_, fun i' hi' => ?_, fun j hj => ?_⟩
  · funext i'
    rw [cu_k a4, cu_k a4, h.1 k' a1 a2 a3 a4 a5 a6 a7]
  · rw [cu_k (by omega), cu_k (by omega), cu_k (by omega), cu_k (by omega), cu_k (by omega), cu_k (by omega)]
    exact h.2.1 i' hi'
  · rw [cu_s, cu_s]
    exact hf j hj
theorem upd_c0 {f g : Fn1} {k : Nat} {v : Int32} (h : ∀ j, j ≠ 0 → g j = f j) : ∀ j, j ≠ 0 → upd g k v j = upd f k v j := fun j hj => upd_c (h j hj)
theorem Sc_tt {v : Int32} (h : Sc c d) : Sc (thC c v) (thC d v) := Sc_18 h (upd_c0 h.2.2)
theorem Sc_md {dn : Nat} {a b : Int32} (h : Sc c d) : Sc (mdC c dn a b) (mdC d dn a b) := by
  unfold mdC
  rw [Sc_k h (k := 21) (by omega), Sc_k h (k := 22) (by omega)]
  exact Sc_18 (Sc_cu (Sc_cu (Sc_tt h) (by omega)) (by omega)) (upd_c0 (upd_c0 h.2.2))
theorem Sc_mr {N dn : Nat} {a : Int32} (h : Sc c d) : Sc (mrC c N dn a) (mrC d N dn a) := by
  unfold mrC
  rw [Sc_k h (k := 21) (by omega), Sc_k h (k := 22) (by omega), Sc_k h (k := 24) (by omega), Sc_k h (k := 25) (by omega), Sc_k h (k := 26) (by omega), Sc_k h (k := 27) (by omega)]
  exact Sc_18 (Sc_18 (Sc_cu (Sc_cu (Sc_cu (Sc_cu (Sc_tt h) (by omega)) (by omega)) (by omega)) (by omega)) (upd_c0 (upd_c0 h.2.2))) (upd_c0 (upd_c0 (upd_c0 h.2.2)))
theorem Sc_mv {k : Nat} {a b : Int32} (h : Sc c d) : Sc (mvC c k a b) (mvC d k a b) := by
  unfold mvC
  rw [Sc_k h (k := 24) (by omega), Sc_k h (k := 25) (by omega)]
  exact Sc_cu (Sc_cu (Sc_tt h) (by omega)) (by omega)
theorem Sc_sh {m : Nat} {a b : Int32} (h : Sc c d) : Sc (shM c m a b) (shM d m a b) := by
  unfold shM
  rw [Sc_k h (k := 29) (by omega), Sc_k h (k := 30) (by omega)]
  exact Sc_cu (Sc_cu (Sc_tt h) (by omega)) (by omega)
theorem Sc_nm {m : Nat} {a b e f : Int32} (h : Sc c d) : Sc (nmM c m a b e f) (nmM d m a b e f) := by
  unfold nmM
  rw [Sc_k h (k := 29) (by omega), Sc_k h (k := 30) (by omega), Sc_k h (k := 31) (by omega), Sc_k h (k := 32) (by omega)]
  exact Sc_18 (Sc_cu (Sc_cu (Sc_cu (Sc_cu (Sc_tt h) (by omega)) (by omega)) (by omega)) (by omega)) (upd_c0 (upd_c0 h.2.2))
theorem Sc_st {s : Nat} {a0 a1 a2 a3 a4 a5 : Int32} (h : Sc c d) : Sc (stM c s a0 a1 a2 a3 a4 a5) (stM d s a0 a1 a2 a3 a4 a5) := by
  unfold stM
  rw [Sc_k h (k := 34) (by omega), Sc_k h (k := 35) (by omega), Sc_k h (k := 36) (by omega), Sc_k h (k := 37) (by omega), Sc_k h (k := 38) (by omega), Sc_k h (k := 39) (by omega)]
  exact Sc_18 (Sc_cu (Sc_cu (Sc_cu (Sc_cu (Sc_cu (Sc_cu (Sc_tt h) (by omega)) (by omega)) (by omega)) (by omega)) (by omega)) (by omega)) (upd_c0 (upd_c0 h.2.2))
theorem Sc_slM {s : Nat} {m : Int32} (h : Sc c d) : Sc (slM c s m) (slM d s m) := by
  unfold slM
  rw [Sc_k h (k := 40) (by omega)]
  exact Sc_cu (Sc_tt h) (by omega)
theorem MI_mv {k : Nat} {a b : Int32} (hI : MI n c) : MI n (mvC c k a b) := by
  have e : ∀ k', k' ≠ 24 → k' ≠ 25 → mvC c k a b k' = thC c (nI 0) k' := fun k' z1 z2 => by funext i; exact (cu_k z2).trans (cu_k z1)
  have h1 := MI_th (v := nI 0) hI
  exact MI_e h1 (by rw [e _ (by decide) (by decide)]) (by rw [e _ (by decide) (by decide)]) (by rw [e _ (by decide) (by decide)]) (e _ (by decide) (by decide)) (e _ (by decide) (by decide)) (e _ (by decide) (by decide)) (e _ (by decide) (by decide)) (e _ (by decide) (by decide)) (e _ (by decide) (by decide)) (e _ (by decide) (by decide))
theorem inP_n {a b : Int32} (h : inP a b = true) : ∃ x y, x < 40 ∧ y < 40 ∧ a = nI x ∧ b = nI y := by
  have one : ∀ v : Int32, inR (nI 0) v (nI 39) = true → ∃ x, x < 40 ∧ v = nI x := by
    intro v hv
    have e : inR (nI 0) v (nI 40 - nI 1) = inN 40 v := inN_eq (by decide)
    have e2 : (nI 40 - nI 1 : Int32) = nI 39 := by decide
    rw [e2] at e
    rw [e] at hv
    exact inN_t (by decide) hv
  obtain ⟨h1, h2⟩ := (Bool.and_eq_true _ _).mp h
  obtain ⟨x, hx, ex⟩ := one a h1
  obtain ⟨y, hy, ey⟩ := one b h2
  exact ⟨x, y, hx, hy, ex, ey⟩
theorem pl_ne {x y : Nat} (hx : x < 40) (hy : y < 40) : (-1 : Int32) ≠ plV (nI x) (nI y) := by
  unfold plV
  rw [pk_mul, nI_add]
  exact fun z => nI_m1 (by omega) z.symm
theorem pl_inj {x y x' y' : Nat} (hx : x < 40) (hy : y < 40) (hx' : x' < 40) (hy' : y' < 40) : (nI (y' * 40 + x') = plV (nI x) (nI y)) = (nI x' = nI x ∧ nI y' = nI y) := by
  unfold plV
  rw [pk_mul, nI_add, propext (nI_eq (show y' * 40 + x' < 2 ^ 31 by omega) (show y * 40 + x < 2 ^ 31 by omega)), propext (nI_eq (show x' < 2 ^ 31 by omega) (show x < 2 ^ 31 by omega)), propext (nI_eq (show y' < 2 ^ 31 by omega) (show y < 2 ^ 31 by omega))]
  exact propext (by omega)
/-- the draft's last point, seen by class and model -/
theorem dr_eq {dn x y : Nat} (hd8 : dn ≤ 8) (k3 : c 9 n.1 2 = nI dn) (k4 : ∀ p, p < dn → ∃ x y, x < 40 ∧ y < 40 ∧ c 21 0 p = nI x ∧ c 22 0 p = nI y ∧ c 10 n.1 p = nI (y * 40 + x)) (hx : x < 40) (hy : y < 40) : decide (plc (c 9 n.1 2) (c 10 n.1) (c 9 n.1 2 - nI 1) = plV (nI x) (nI y)) = thrM c dn (nI x) (nI y) := by
  unfold thrM
  rw [k3]
  by_cases z : dn = 0
  · subst z
    have e : plc (nI 0) (c 10 n.1) (nI 0 - nI 1) = -1 := by
      unfold plc
      rw [if_pos (by decide)]
    rw [e, decide_eq_false (pl_ne hx hy)]
    rfl
  · rw [pk_sub (by omega), plc_in (by omega) hd8, decide_eq_true (show 0 < dn by omega), Bool.true_and, ← Bool.decide_and]
    obtain ⟨x', y', b1, b2, b3, b4, b5⟩ := k4 (dn - 1) (by omega)
    rw [b3, b4, b5, decide_eq_decide, pl_inj hx hy b1 b2]
/-- the points ahead and behind, seen by class and model -/
theorem mv_eq (hI : Inv n c) {r p x y : Nat} (hr : r < n.1) (hp : p < szO (c 9) r) (hx : x < 40) (hy : y < 40) : (decide (plc (c 9 r 2) (c 10 r) (nI p - nI 1) = plV (nI x) (nI y)) || decide (plc (c 9 r 2) (c 10 r) (nI p + nI 1) = plV (nI x) (nI y))) = (ahM c r p (nI x) (nI y) || bhM c r (szN (c 26 0) r) p (nI x) (nI y)) := by
  obtain ⟨i1, i2, i3, i4, i5, i6, i7, i8, i9, i10⟩ := hI
  obtain ⟨a1, a2, a3, a4, a5, a6, a7⟩ := i1
  obtain ⟨e1, e8⟩ := a5 r (by omega)
  have ez := RdT_sz i3 hr
  have pt : ∀ q, q < szO (c 9) r → decide (c 10 r q = plV (nI x) (nI y)) = atM c (8 * r + q) (nI x) (nI y) := fun q hq => by
    obtain ⟨x', y', b1, b2, b3, b4, b5⟩ := (i3 r hr).2.2 q hq
    unfold atM
    rw [b3, b4, b5, ← Bool.decide_and, decide_eq_decide, pl_inj hx hy b1 b2]
  rw [e1]
  congr 1
  · unfold ahM
    by_cases z : p = 0
    · subst z
      have e : plc (nI (szO (c 9) r)) (c 10 r) (nI 0 - nI 1) = -1 := by
        unfold plc
        rw [if_pos (by decide)]
      rw [e, decide_eq_false (pl_ne hx hy)]
      rfl
    · rw [pk_sub (by omega), plc_in (by omega) e8, pt _ (by omega), decide_eq_true (show 0 < p by omega), Bool.true_and, show 8 * r + (p - 1) = 8 * r + p - 1 by omega]
  · unfold bhM
    rw [nI_add]
    by_cases z : p < szN (c 26 0) r - 1
    · rw [plc_in (by omega) e8, pt _ (by omega), decide_eq_true z, Bool.true_and]
      rfl
    · have e : plc (nI (szO (c 9) r)) (c 10 r) (nI (p + 1)) = -1 := by
        unfold plc
        rw [if_neg (nI_pos (by omega)), if_pos (le_t (by omega) (by omega))]
      rw [e, decide_eq_false (pl_ne hx hy), decide_eq_false z]
      rfl
theorem wr_18 : ∀ {k s : Nat} {p : Cc × Int32}, (itF (swM n) k s p).1 18 = p.1 18
  | 0, s, p => rfl
  | k + 1, s, p => by
    rw [itF_s, wr_18]
    show erC n p.1 s 18 = p.1 18
    unfold erC
    split
    · exact cM_n (by decide) (by decide)
    · rfl
theorem wr_19 : ∀ {k s : Nat} {p : Cc × Int32}, (itF (swM n) k s p).1 19 = p.1 19
  | 0, s, p => rfl
  | k + 1, s, p => by
    rw [itF_s, wr_19]
    show erC n p.1 s 19 = p.1 19
    unfold erC
    split
    · exact cM_n (by decide) (by decide)
    · rfl
theorem er_18 {s : Nat} : erC n c s 18 = c 18 := by
  unfold erC
  split
  · exact cM_n (by decide) (by decide)
  · rfl
theorem er_19 {s : Nat} : erC n c s 19 = c 19 := by
  unfold erC
  split
  · exact cM_n (by decide) (by decide)
  · rfl
theorem left_c (hI : Inv n c) {r j : Nat} (hr : r < n.1) (hj : j < 4) : rdA 4 (c 11 r) (nI 0) (nI j) = lfM c n.1 r (nI j) := by
  rw [rdA_in hj (by decide)]
  exact hI.2.2.2.2.2.2.1 r hr j hj
theorem left_bc (hI : Inv n c) {r : Nat} (hr : r < n.1) {s : Int32} : bcI (lfM c n.1 r s) = cnt8 (lfM c n.1 r s) := by
  obtain ⟨z1, z2, z3⟩ := hI.2.1.2.2.2.2.2.2.1 r hr
  obtain ⟨T, a1, a2, a3⟩ := left_N (X := c 24 0) (Y := c 25 0) (RK := c 27 0) (N := n.1) (s := s) z1 z2 z3
  have e : lfM c n.1 r s = nI T := a2
  rw [e]
  exact bc_cnt T a1
end
def Go (x : Cx) (post : Po) (sm om oo i a b : Nat) : Prop := ∀ (l : Ly) (n : Nn) (c : Cc) (l5 l6 : Option Value) (mc ms : Nat), Lay x l n → l.1 0 1 = l.1 9 n.1 → Inv n c → l.1 0 0 = sm → l.1 18 0 = om → l.1 19 0 = oo → a ≤ mc → b ≤ ms → WP x 167 1270 [some (.ref (xB x)), some (.ref sm), some (.ref om), some (.ref oo), some (.int (nI i)), l5, l6] [] (Wo x l n c) mc ms post
