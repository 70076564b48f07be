/-! what is drawn anew for each question doesn't matter -/
def Ag (f f' : S2) : Prop := ∀ j, j < 10 → f.1 j = f'.1 j ∧ f.2 j = f'.2 j
theorem upd_c {f g : Fn1} {k j : Nat} {v : Int32} (h : f j = g j) : upd f k v j = upd g k v j := by
  unfold upd
  split
  · rfl
  · exact h
theorem cp_lt {k j : Nat} {f g : Fn1} (h : j < k) : cp k f g j = g j := if_pos h
theorem ltF_c {f g : Nat → Bool} : ∀ {d j : Nat}, (∀ q, j ≤ q → q < j + d → f q = g q) → ltF f d j = ltF g d j
  | 0, j, h => rfl
  | d + 1, j, h => by
    rw [ltF_s, ltF_s, h j (Nat.le_refl j) (by omega), ltF_c (fun q h1 h2 => h q (by omega) (by omega))]
section
variable {N : Nat} {G : Fn2} {u u' : Fn1}
theorem lbP_q (hN : N ≤ 10) (h2 : ∀ j, j < 6 → u j = u' j) {f f' : S2} (h : Ag f f') {m : Nat} : lbP f.1 N G u m = lbP f'.1 N G u' m := by
  funext sd
  unfold lbP
  rw [ltF_c (g := tkB f'.1 G (lbS (G m) sd) (G m 0)) (fun q _ h2 => by unfold tkB; rw [(h q (by omega)).1]), h2 1 (by omega), h2 2 (by omega), h2 3 (by omega), h2 4 (by omega), h2 5 (by omega)]
theorem lb2_q (hN : N ≤ 10) (h2 : ∀ j, j < 6 → u j = u' j) {rk : Int32} {m : Nat} {f f' : S2} (h : Ag f f') : Ag (lb2 N G u rk m f) (lb2 N G u' rk m f') := by
  unfold lb2 onP lb1
  rw [h2 1 (by omega), h2 2 (by omega), h2 3 (by omega), h2 4 (by omega), lbP_q hN h2 h]
  split
  · split
    · exact fun j hj => ⟨upd_c (h j hj).1, upd_c (h j hj).2⟩
    · exact h
  · exact h
theorem itb_q (hN : N ≤ 10) (h2 : ∀ j, j < 6 → u j = u' j) {rk : Int32} : ∀ {d m : Nat} {f f' : S2}, Ag f f' → Ag (itF (lb2 N G u rk) d m f) (itF (lb2 N G u' rk) d m f')
  | 0, m, f, f', h => h
  | d + 1, m, f, f', h => by
    rw [itF_s, itF_s]
    exact itb_q hN h2 (lb2_q hN h2 h)
theorem lb3_q (hN : N ≤ 10) (h2 : ∀ j, j < 6 → u j = u' j) {sc : Nat} : ∀ {d : Nat} {f f' : S2}, Ag f f' → Ag (lb3 N G u d sc f) (lb3 N G u' d sc f')
  | 0, f, f', h => h
  | d + 1, f, f', h => by
    rw [lb3_s, lb3_s]
    exact lb3_q hN h2 (itb_q hN h2 h)
theorem lbA_q (hN : N ≤ 10) (h2 : ∀ j, j < 6 → u j = u' j) {f g f' g' : Fn1} {sc : Nat} : Ag (lbA N G u f g sc) (lbA N G u' f' g' sc) := by
  unfold lbA
  exact lb3_q hN h2 (fun j hj => ⟨(cp_lt hj).trans (cp_lt hj).symm, (cp_lt hj).trans (cp_lt hj).symm⟩)
end
theorem dF_q {bit : Nat → Bool} {B : Fn1} {o j : Nat} : ∀ {d p k : Nat} {f f' : Fn1}, f j = f' j → dF bit B o d p k f j = dF bit B o d p k f' j
  | 0, p, k, f, f', h => h
  | d + 1, p, k, f, f', h => by
    rw [dF_s, dF_s]
    split
    · exact dF_q (upd_c h)
    · exact dF_q h
theorem drR_q {A B : Fn2} {u u' S : Fn1} (h2 : ∀ j, j < 6 → u j = u' j) {r j : Nat} {f f' : Fn1} (h : f j = f' j) : drR A B u S r f j = drR A B u' S r f' j := by
  unfold drR onP
  rw [h2 1 (by omega), h2 2 (by omega), h2 3 (by omega), h2 4 (by omega)]
  split
  · exact dF_q h
  · exact h
theorem itd_q {A B : Fn2} {u u' S : Fn1} (h2 : ∀ j, j < 6 → u j = u' j) {j : Nat} : ∀ {d r : Nat} {f f' : Fn1}, f j = f' j → itF (drR A B u S) d r f j = itF (drR A B u' S) d r f' j
  | 0, r, f, f', h => h
  | d + 1, r, f, f', h => by
    rw [itF_s, itF_s]
    exact itd_q h2 (drR_q h2 h)
/-- alike but for what is drawn anew -/
def Sq (c d : Cc) : Prop := ∀ k i, ¬ (i = 0 ∧ (k = 15 ∨ k = 16 ∨ k = 17)) → d k i = c k i
theorem Sq_r {c : Cc} : Sq c c := fun _ _ _ => rfl
theorem Sq_t {c d e : Cc} (h : Sq c d) (g : Sq d e) : Sq c e := fun k i z => (g k i z).trans (h k i z)
theorem Sq_y {c d : Cc} (h : Sq c d) : Sq d c := fun k i z => (h k i z).symm
theorem Sq_k {c d : Cc} (h : Sq c d) {k : Nat} (hk : k ≠ 15 ∧ k ≠ 16 ∧ k ≠ 17) : d k = c k := by
  funext i
  exact h k i (by omega)
theorem Sq_cL {c : Cc} {f : S2} : Sq c (cL c 0 f) := fun k i z => by
  unfold cL cu
  rw [if_neg (by omega), if_neg (by omega)]
theorem Sq_dr {n : Nn} {c : Cc} {s : Nat} : Sq c (drw n c s) := fun k i z => by
  unfold drw cL cu
  rw [if_neg (by omega), if_neg (by omega), if_neg (by omega)]
theorem Sq_sw {n : Nn} : ∀ {d s : Nat} {p : Cc × Int32}, Sq p.1 (itF (swF n) d s p).1
  | 0, s, p => Sq_r
  | d + 1, s, p => Sq_t Sq_dr (Sq_sw (p := swF n s p))
theorem Sq_swe {n : Nn} {c : Cc} : Sq c (sweC n c).1 := Sq_sw
/-- what a sheet's picture is drawn from is the same -/
def Dq (c d : Cc) (s : Nat) : Prop := d 9 = c 9 ∧ d 10 = c 10 ∧ d 11 = c 11 ∧ d 12 = c 12 ∧ ∀ j, j < 6 → d 13 s j = c 13 s j
section
variable {n : Nn} {c d : Cc} {s : Nat}
theorem Sq_D (h : Sq c d) : Dq c d s := ⟨Sq_k h (by omega), Sq_k h (by omega), Sq_k h (by omega), Sq_k h (by omega), fun j _ => by rw [Sq_k h (by omega)]⟩
theorem lbls_q (hN : n.2.1 ≤ 10) (h : Dq c d s) : Ag (lbls n d s) (lbls n c s) := by
  obtain ⟨h1, h2, h3, h4, h5⟩ := h
  have e : scO (d 13) s = scO (c 13) s := by unfold scO; rw [h5 0 (by omega)]
  unfold lbls
  rw [h4, e]
  exact lbA_q hN h5
theorem lins_q (h : Dq c d s) : ∀ j, j < 64 → lins n d s j = lins n c s j := by
  intro j hj
  obtain ⟨h1, h2, h3, h4, h5⟩ := h
  have e : shS d s = shS c s := by
    funext r
    show rdA 4 (d 11 r) (nI 0) (d 13 s 0) = rdA 4 (c 11 r) (nI 0) (c 13 s 0)
    rw [h3, h5 0 (by omega)]
  unfold lins
  rw [h1, h2, e]
  exact itd_q h5 ((cp_lt hj).trans (cp_lt hj).symm)
theorem diffs_c {f g f' g' u v u' v' : Fn1} (h1 : ∀ j, j < 10 → f j = f' j) (h2 : ∀ j, j < 10 → g j = g' j) (h3 : ∀ j, j < 64 → u j = u' j) (h4 : ∀ j, j < 64 → v j = v' j) : diffs f g u v = diffs f' g' u' v' := by
  unfold diffs
  rw [cntI_c (f := fun j => !decide (f j = g j)) (g := fun j => !decide (f' j = g' j)) (fun q _ hq => by rw [h1 q (by omega), h2 q (by omega)])]
  refine cntI_c (fun r _ hr => anyB_c0 (fun j hj => ?_))
  rw [h3 (r * 8 + j) (by omega), h4 (r * 8 + j) (by omega)]
theorem cntI_no {f : Nat → Bool} : ∀ {d j : Nat} {a : Int32}, (∀ q, j ≤ q → q < j + d → f q = false) → cntI f d j a = a
  | 0, j, a, h => rfl
  | d + 1, j, a, h => by
    rw [cntI_s, h j (Nat.le_refl j) (by omega), if_neg Bool.false_ne_true, cntI_no (fun q h1 h2 => h q (by omega) (by omega))]
theorem diffs_0 {f g u v : Fn1} (h1 : ∀ j, j < 10 → f j = g j) (h3 : ∀ j, j < 64 → u j = v j) : diffs f g u v = nI 0 := by
  unfold diffs
  rw [cntI_no (f := fun j => !decide (f j = g j)) (fun q _ hq => by rw [h1 q (by omega)]; simp), cntI_no]
  intro r _ hr
  rw [← Bool.not_eq_true, anyB_if0]
  rintro ⟨j, hj, hx⟩
  rw [h3 (r * 8 + j) (by omega)] at hx
  simp at hx
theorem cntI_n {f : Nat → Bool} : ∀ {d j k : Nat}, ∃ e, e ≤ d ∧ cntI f d j (nI k) = nI (k + e)
  | 0, j, k => ⟨0, Nat.le_refl 0, rfl⟩
  | d + 1, j, k => by
    rw [cntI_s]
    split
    · obtain ⟨e, h1, h2⟩ := cntI_n (f := f) (d := d) (j := j + 1) (k := k + 1)
      exact ⟨e + 1, by omega, by rw [nI_add, h2]; congr 1; omega⟩
    · obtain ⟨e, h1, h2⟩ := cntI_n (f := f) (d := d) (j := j + 1) (k := k)
      exact ⟨e, by omega, h2⟩
theorem diffs_n {f g u v : Fn1} : ∃ k, k ≤ 18 ∧ diffs f g u v = nI k := by
  unfold diffs
  obtain ⟨e, h1, h2⟩ := cntI_n (f := fun j => !decide (f j = g j)) (d := 10) (j := 0) (k := 0)
  obtain ⟨e', h1', h2'⟩ := cntI_n (f := fun r => anyB (fun j => !decide (u (r * 8 + j) = v (r * 8 + j))) 8 0) (d := 8) (j := 0) (k := 0 + e)
  rw [h2, h2']
  exact ⟨_, by omega, rfl⟩
/-- errata are counted -/
theorem errC_n : ∃ k, k ≤ 18 ∧ errC n c s = nI k := by
  unfold errC
  split
  · exact diffs_n
  · exact ⟨0, by omega, rfl⟩
theorem errC_q (hN : n.2.1 ≤ 10) (h : Sq c d) : errC n d s = errC n c s := by
  have hD := Sq_D (s := s) h
  unfold errC
  rw [Sq_k h (k := 13) (by omega), h 15 (s + 1) (by omega), h 17 (s + 1) (by omega), diffs_c (f' := c 15 (s + 1)) (g' := (lbls n c s).1) (u' := c 17 (s + 1)) (v' := lins n c s) (fun _ _ => rfl) (fun j hj => (lbls_q hN hD j hj).1) (fun _ _ => rfl) (lins_q hD)]
/-- how many sheets have errata -/
def cntE (n : Nn) (c : Cc) (d s : Nat) (a : Int32) : Int32 := cntI (fun s => !decide (errC n c s ≤ 0)) d s a
theorem swe_q (hN : n.2.1 ≤ 10) (e : Cc) : ∀ {d s : Nat} {c : Cc} {a : Int32}, Sq e c → (itF (swF n) d s (c, a)).2 = cntE n e d s a
  | 0, s, c, a, h => rfl
  | d + 1, s, c, a, h => by
    rw [itF_s]
    unfold cntE
    rw [cntI_s]
    unfold swF
    rw [errC_q hN h]
    have ih := fun a => swe_q hN e (d := d) (s := s + 1) (c := drw n c s) (a := a) (Sq_t h Sq_dr)
    unfold cntE at ih
    by_cases z : errC n e s ≤ 0
    · rw [if_pos z, decide_eq_true z, Bool.not_true, if_neg Bool.false_ne_true]
      exact ih a
    · rw [if_neg z, decide_eq_false z, Bool.not_false, if_pos rfl]
      exact ih (a + nI 1)
theorem sweC_q (hN : n.2.1 ≤ 10) (h : Sq c d) : (sweC n d).2 = cntE n c n.2.2.1 0 (nI 0) := swe_q hN c h
theorem cntE_n : ∃ k, k ≤ n.2.2.1 ∧ cntE n c n.2.2.1 0 (nI 0) = nI k := by
  obtain ⟨e, h1, h2⟩ := cntI_n (f := fun s => !decide (errC n c s ≤ 0)) (d := n.2.2.1) (j := 0) (k := 0)
  exact ⟨e, h1, by unfold cntE; rw [h2, Nat.zero_add]⟩
theorem cntE_q (hN : n.2.1 ≤ 10) (h : Sq c d) {e s : Nat} {a : Int32} : cntE n d e s a = cntE n c e s a := cntI_c (fun q _ _ => by rw [errC_q hN h])
/-- a sheet just printed has no errata -/
theorem errC_k (hN : n.2.1 ≤ 10) {v : Int32} : errC n (keepC (drw n c s) s v) s = nI 0 := by
  have e13 : ∀ j, j < 6 → keepC (drw n c s) s v 13 s j = c 13 s j := by
    intro j hj
    unfold keepC
    rw [cu_s, upd_n (by omega), upd_n (by omega), Sq_k (Sq_dr (n := n) (c := c) (s := s)) (by omega)]
  have e137 : keepC (drw n c s) s v 13 s 7 = nI 1 := by
    unfold keepC
    rw [cu_s, upd_n (by omega), upd_s]
  have ek : ∀ k, k ≠ 13 ∧ k ≠ 15 ∧ k ≠ 16 ∧ k ≠ 17 → keepC (drw n c s) s v k = c k := by
    intro k z
    funext i
    unfold keepC
    rw [cu_k (by omega), cu_k (by omega), cu_k (by omega), cu_k (by omega), Sq_k (Sq_dr (n := n) (c := c) (s := s)) (by omega)]
  have hD : Dq c (keepC (drw n c s) s v) s := ⟨ek _ (by omega), ek _ (by omega), ek _ (by omega), ek _ (by omega), e13⟩
  have e15 : ∀ j, j < 10 → keepC (drw n c s) s v 15 (s + 1) j = (lbls n c s).1 j := by
    intro j hj
    unfold keepC
    rw [cu_k (by omega), cu_k (by omega), cu_s, cp_lt hj, drw_15]
  have e17 : ∀ j, j < 64 → keepC (drw n c s) s v 17 (s + 1) j = lins n c s j := by
    intro j hj
    unfold keepC
    rw [cu_k (by omega), cu_s, cp_lt hj, drw_17]
  unfold errC
  rw [e137, if_pos (by decide)]
  refine diffs_0 (fun j hj => ?_) (fun j hj => ?_)
  · rw [e15 j hj, (lbls_q hN hD j hj).1]
  · rw [e17 j hj, lins_q hD j hj]
end
