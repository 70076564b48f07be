theorem gvF_id {P : Fn1 → Nat → Bool} {g : Fn1} {m : Nat} {f : S2} (h : f.1 m ≠ -1) : ∀ {d k : Nat}, gvF P g m d k f = f
  | 0, k => rfl
  | d + 1, k => by rw [gvF_s, if_neg h]
theorem gvF_e {P : Fn1 → Nat → Bool} {g : Fn1} {m : Nat} {f : S2} (h : f.1 m = -1) (hP : ∀ k, P f.1 k = true → lbS g k ≠ -1) : ∀ {d k : Nat}, gvF P g m d k f = if fsF (P f.1) d k < k + d then (upd f.1 m (lbS g (fsF (P f.1) d k)), upd f.2 m (nI (fsF (P f.1) d k))) else f
  | 0, k => by rw [gvF_0, fsF_0, if_neg (by omega)]
  | d + 1, k => by
    rw [gvF_s, if_pos h, fsF_s]
    cases e : P f.1 k
    · rw [if_neg Bool.false_ne_true, if_neg Bool.false_ne_true, gvF_e h hP]
      have e1 : (fsF (P f.1) d (k + 1) < k + 1 + d) = (fsF (P f.1) d (k + 1) < k + (d + 1)) := by rw [show k + 1 + d = k + (d + 1) by omega]
      simp only [e1]
    · rw [if_pos rfl, if_pos rfl, if_pos (by omega)]
      refine gvF_id ?_
      show upd f.1 m (lbS g k) m ≠ -1
      rw [upd_s]
      exact hP k e
/-- two pictures of labels say the same of the names -/
def Ag (f f' : S2) : Prop := ∀ j, j < 10 → f.1 j = f'.1 j ∧ f.2 j = f'.2 j
/-- what holds while labels are given: up to name m of rank r -/
def Jn (N : Nat) (G : Fn2) (r m : Nat) (f : S2) : Prop := (∀ o, o < N → LbO G f.1 o) ∧ (∀ o o' x y x' y', o < N → o' < N → o ≠ o' → x + lnO G o ≤ 40 → x' + lnO G o' ≤ 40 → f.1 o = nI (y * 40 + x) → f.1 o' = nI (y' * 40 + x') → y < 40 → y' < 40 → y ≠ y' ∨ x + lnO G o ≤ x' ∨ x' + lnO G o' ≤ x) ∧ (∀ o, o < N → f.1 o ≠ -1 → (∃ r', r < r' ∧ r' ≤ 3 ∧ G o 1 = nI r') ∨ (G o 1 = nI r ∧ o < m)) ∧ (∀ o, N ≤ o → o < 10 → f.1 o = -1 ∧ f.2 o = -1)
section
variable {N : Nat} {G : Fn2} {u : Fn1}
theorem lbP_Ag {f f' : S2} (hN : N ≤ 10) (h : Ag f f') {m sd : Nat} : lbP f.1 N G u m sd = lbP f'.1 N G u m sd := by
  unfold lbP
  rw [ltF_c (g := tkB f'.1 G (lbS (G m) sd) (G m 0)) (fun q _ h2 => by unfold tkB; rw [(h q (by omega)).1])]
theorem rmG_Ag {f f' : S2} (hN : N ≤ 10) (h : Ag f f') {m sd : Nat} : rmG f.1 N G u m sd = rmG f'.1 N G u m sd := by
  unfold rmG
  have e : ∀ F A fo, bdG f.1 G N F A fo = bdG f'.1 G N F A fo := by
    intro F A fo
    funext j
    unfold bdG anyT
    rw [anyB_c0 (g := fun o => takM (f'.1 o) (G o 0) (F + nI j) A) (fun q h2 => by rw [(h q (by omega)).1])]
  rw [e]
theorem upd_c {f g : Fn1} {k j : Nat} {v : Int32} (h : f j = g j) : upd f k v j = upd g k v j := by
  unfold upd
  split
  · rfl
  · exact h
theorem rk_ne {r r' : Nat} (h : r < r') (h3 : r' ≤ 3) : nI r ≠ nI r' := fun z => by
  have := (nI_eq (show r < 2 ^ 31 by omega) (show r' < 2 ^ 31 by omega)).mp z
  omega
/-- one name -/
theorem lab_1 (hN : N ≤ 10) (hG : NmG N G) (hu : UmG u) {r m : Nat} (hm : m < N) {f f' : S2} (hA : Ag f f') (hJ : Jn N G r m f) : Ag (lb2 N G u (nI r) m f) (md2 N G u (nI r) m f') ∧ Jn N G r (m + 1) (lb2 N G u (nI r) m f) := by
  obtain ⟨j1, j2, j3, j4⟩ := hJ
  obtain ⟨⟨X, Y, hX, hY, eX, eY⟩, eL, l1, l8⟩ := hG m hm
  have eon : onP u (G m 3 * nI 40 + G m 2) = onR (u 1) (u 2) (u 3) (u 4) (G m 2) (G m 3) := by
    unfold onP
    rw [eX, eY, pk_mul, nI_add, xO_n hX hY, yO_n hX hY]
  unfold lb2 md2
  rw [eon]
  by_cases hc : (decide (G m 1 = nI r) && onR (u 1) (u 2) (u 3) (u 4) (G m 2) (G m 3)) = true
  · rw [if_pos hc, if_pos hc]
    have hr := of_decide_eq_true ((Bool.and_eq_true _ _).mp hc).1
    have f0 : f.1 m = -1 := by
      by_cases z : f.1 m = -1
      · exact z
      · rcases j3 m hm z with ⟨r', a1, a2, a3⟩ | ⟨_, a2⟩
        · exact absurd (hr.symm.trans a3) (rk_ne a1 a2)
        · omega
    have f0' : f'.1 m = -1 := by rw [← (hA m (by omega)).1]; exact f0
    have rq := fun sd => room_eq hN hG hu j1 hm (sd := sd)
    have eP : ∀ sd, (fun g k => rmG g N G u m k) f'.1 sd = lbP f.1 N G u m sd := fun sd => by
      show rmG f'.1 N G u m sd = _
      rw [(rq sd).1, rmG_Ag hN hA]
    have hPn : ∀ k, (fun g k => rmG g N G u m k) f'.1 k = true → lbS (G m) k ≠ -1 := fun k z => by
      rw [eP k] at z
      obtain ⟨x, y, a1, a2, a3, a4⟩ := (rq k).2 z
      rw [a3]
      exact nI_m1 (by omega)
    rw [gvF_e f0' hPn, show (fun k => rmG f'.1 N G u m k) = lbP f.1 N G u m from funext eP]
    unfold lb1
    simp only [Nat.zero_add]
    by_cases hs4 : fsF (lbP f.1 N G u m) 4 0 < 4
    · rw [if_pos hs4, if_pos hs4]
      obtain ⟨x, y, a1, a2, a3, a4⟩ := (rq _).2 (fsF_P (f := lbP f.1 N G u m) (d := 4) (j := 0) (by omega))
      refine ⟨fun j hj => ⟨upd_c (hA j hj).1, upd_c (hA j hj).2⟩, fun o ho => ?_, ?_, fun o ho hne => ?_, fun o h1 h2 => ?_⟩
      · show LbO G (upd f.1 m _) o
        unfold LbO
        by_cases e : o = m
        · rw [e, upd_s]
          exact Or.inr ⟨x, y, a1, a2, a3⟩
        · rw [upd_n e]
          exact j1 o ho
      · have main : ∀ o' x' y', o' < N → m ≠ o' → x' + lnO G o' ≤ 40 → f.1 o' = nI (y' * 40 + x') → y' < 40 → y ≠ y' ∨ x + lnO G m ≤ x' ∨ x' + lnO G o' ≤ x := by
          intro o' x' y' ho' hne hx' e' hy'
          have t := a4 o' ho'
          unfold tkB at t
          rw [eL, (hG o' ho').2.1, e', nI_add, nI_add, decide_eq_false (nI_m1 (show y' * 40 + x' < 2 ^ 31 by omega))] at t
          have l8' := (hG o' ho').2.2.2
          rw [← Bool.not_eq_true] at t
          simp only [Bool.not_false, Bool.true_and, Bool.and_eq_true, Bool.not_eq_true', decide_eq_false_iff_not, nI_leI (show y * 40 + x + lnO G m < 2 ^ 31 by omega) (show y' * 40 + x' < 2 ^ 31 by omega), nI_leI (show y' * 40 + x' + lnO G o' < 2 ^ 31 by omega) (show y * 40 + x < 2 ^ 31 by omega)] at t
          omega
        intro o o' x1 y1 x' y' ho ho' hne hx1 hx' e1 e' hy1 hy'
        show _
        have e1 : upd f.1 m (lbS (G m) (fsF (lbP f.1 N G u m) 4 0)) o = nI (y1 * 40 + x1) := e1
        have e' : upd f.1 m (lbS (G m) (fsF (lbP f.1 N G u m) 4 0)) o' = nI (y' * 40 + x') := e'
        by_cases q1 : o = m
        · subst q1
          rw [upd_s, a3] at e1
          rw [upd_n (Ne.symm hne)] at e'
          have := (nI_eq (show y * 40 + x < 2 ^ 31 by omega) (show y1 * 40 + x1 < 2 ^ 31 by omega)).mp e1
          have := main o' x' y' ho' hne hx' e' hy'
          omega
        · by_cases q2 : o' = m
          · subst q2
            rw [upd_s, a3] at e'
            rw [upd_n q1] at e1
            have := (nI_eq (show y * 40 + x < 2 ^ 31 by omega) (show y' * 40 + x' < 2 ^ 31 by omega)).mp e'
            have := main o x1 y1 ho (Ne.symm q1) hx1 e1 hy1
            omega
          · rw [upd_n q1] at e1
            rw [upd_n q2] at e'
            exact j2 o o' x1 y1 x' y' ho ho' hne hx1 hx' e1 e' hy1 hy'
      · have hne : upd f.1 m (lbS (G m) (fsF (lbP f.1 N G u m) 4 0)) o ≠ -1 := hne
        by_cases e : o = m
        · rw [e]
          exact Or.inr ⟨hr, by omega⟩
        · rw [upd_n e] at hne
          rcases j3 o ho hne with z | ⟨z1, z2⟩
          · exact Or.inl z
          · exact Or.inr ⟨z1, by omega⟩
      · show upd f.1 m _ o = -1 ∧ upd f.2 m _ o = -1
        rw [upd_n (show o ≠ m by omega), upd_n (show o ≠ m by omega)]
        exact j4 o h1 h2
    · rw [if_neg hs4, if_neg hs4]
      refine ⟨hA, j1, j2, fun o ho hne => ?_, j4⟩
      rcases j3 o ho hne with z | ⟨z1, z2⟩
      · exact Or.inl z
      · exact Or.inr ⟨z1, by omega⟩
  · rw [if_neg hc, if_neg hc]
    refine ⟨hA, j1, j2, fun o ho hne => ?_, j4⟩
    rcases j3 o ho hne with z | ⟨z1, z2⟩
    · exact Or.inl z
    · exact Or.inr ⟨z1, by omega⟩
theorem lab_2 (hN : N ≤ 10) (hG : NmG N G) (hu : UmG u) {r : Nat} : ∀ (d m : Nat) (f f' : S2), m + d = N → Ag f f' → Jn N G r m f → Ag (itF (lb2 N G u (nI r)) d m f) (itF (md2 N G u (nI r)) d m f') ∧ Jn N G r N (itF (lb2 N G u (nI r)) d m f)
  | 0, m, f, f', hj, hA, hJ => by
    rw [itF_0, itF_0]
    exact ⟨hA, by rw [show N = m by omega] at hJ ⊢; exact hJ⟩
  | d + 1, m, f, f', hj, hA, hJ => by
    rw [itF_s, itF_s]
    obtain ⟨h1, h2⟩ := lab_1 hN hG hu (show m < N by omega) hA hJ
    exact lab_2 hN hG hu d (m + 1) _ _ (by omega) h1 h2
def Jk (N : Nat) (G : Fn2) (k : Nat) (f : S2) : Prop := (∀ o, o < N → LbO G f.1 o) ∧ (∀ o o' x y x' y', o < N → o' < N → o ≠ o' → x + lnO G o ≤ 40 → x' + lnO G o' ≤ 40 → f.1 o = nI (y * 40 + x) → f.1 o' = nI (y' * 40 + x') → y < 40 → y' < 40 → y ≠ y' ∨ x + lnO G o ≤ x' ∨ x' + lnO G o' ≤ x) ∧ (∀ o, o < N → f.1 o ≠ -1 → ∃ r', k ≤ r' ∧ r' ≤ 3 ∧ G o 1 = nI r') ∧ (∀ o, N ≤ o → o < 10 → f.1 o = -1 ∧ f.2 o = -1)
theorem lab_3 (hN : N ≤ 10) (hG : NmG N G) (hu : UmG u) {sc : Nat} : ∀ (d : Nat) (f f' : S2), sc + d ≤ 4 → Ag f f' → Jk N G (sc + d) f → Ag (lb3 N G u d sc f) (md3 N G u d sc f') ∧ Jk N G sc (lb3 N G u d sc f)
  | 0, f, f', hj, hA, hJ => by
    rw [lb3_0, md3_0]
    exact ⟨hA, hJ⟩
  | d + 1, f, f', hj, hA, hJ => by
    rw [lb3_s, md3_s]
    have hJ' : Jn N G (sc + d) 0 f := by
      obtain ⟨j1, j2, j3, j4⟩ := hJ
      refine ⟨j1, j2, fun o ho hne => ?_, j4⟩
      obtain ⟨r', z1, z2, z3⟩ := j3 o ho hne
      exact Or.inl ⟨r', by omega, z2, z3⟩
    obtain ⟨h1, h2⟩ := lab_2 hN hG hu N 0 f f' (Nat.zero_add N) hA hJ'
    refine lab_3 hN hG hu d _ _ (by omega) h1 ?_
    obtain ⟨j1, j2, j3, j4⟩ := h2
    refine ⟨j1, j2, fun o ho hne => ?_, j4⟩
    rcases j3 o ho hne with ⟨r', z1, z2, z3⟩ | ⟨z1, z2⟩
    · exact ⟨r', by omega, z2, z3⟩
    · exact ⟨sc + d, by omega, by omega, z1⟩
theorem cp_lt {k j : Nat} {f g : Fn1} (h : j < k) : cp k f g j = g j := if_pos h
/-- the labels of class and model agree -/
theorem lab_A (hN : N ≤ 10) (hG : NmG N G) (hu : UmG u) {sc : Nat} (hsc : sc ≤ 3) {f g f' g' : Fn1} : Ag (lbA N G u f g sc) (mdA N G u f' g' sc) ∧ Jk N G sc (lbA N G u f g sc) := by
  unfold lbA mdA
  have n1 : ∀ (h : Fn1) j, j < 10 → cp 10 h nn1 j = -1 := fun h j hj => cp_lt hj
  refine lab_3 hN hG hu (4 - sc) _ _ (by omega) (fun j hj => ?_) ⟨fun o ho => Or.inl (n1 f o (by omega)), fun o o' x y x' y' ho ho' hne _ _ e1 _ h1 _ => ?_, fun o ho hne => absurd (n1 f o (by omega)) hne, fun o h1 h2 => ⟨n1 f o h2, n1 g o h2⟩⟩
  · exact ⟨(n1 f j hj).trans (n1 f' j hj).symm, (n1 g j hj).trans (n1 g' j hj).symm⟩
  · have e1 : cp 10 f nn1 o = nI (y * 40 + x) := e1
    rw [n1 f o (by omega)] at e1
    exact absurd e1.symm (nI_m1 (by omega))
theorem tkB_c {G' : Fn2} (h1 : ∀ m, m < N → ∀ j, j < 4 → G m j = G' m j) {f : Fn1} {st len : Int32} : ltF (tkB f G st len) N 0 = ltF (tkB f G' st len) N 0 := ltF_c (fun q _ hq => by unfold tkB; rw [h1 q (by omega) 0 (by omega)])
theorem lbS_c {g g' : Fn1} (h1 : ∀ j, j < 4 → g j = g' j) {sd : Nat} : lbS g sd = lbS g' sd := by
  unfold lbS
  rw [h1 0 (by omega), h1 2 (by omega), h1 3 (by omega)]
theorem lbP_c {G' : Fn2} {u' : Fn1} (h1 : ∀ m, m < N → ∀ j, j < 4 → G m j = G' m j) (h2 : ∀ j, j < 6 → u j = u' j) {m : Nat} (hm : m < N) {f : Fn1} : lbP f N G u m = lbP f N G' u' m := by
  funext sd
  unfold lbP
  rw [lbS_c (h1 m hm), tkB_c h1, h1 m hm 0 (by omega), h1 m hm 2 (by omega), h1 m hm 3 (by omega), h2 1 (by omega), h2 2 (by omega), h2 3 (by omega), h2 4 (by omega), h2 5 (by omega)]
theorem lb1_c {G' : Fn2} {u' : Fn1} (h1 : ∀ m, m < N → ∀ j, j < 4 → G m j = G' m j) (h2 : ∀ j, j < 6 → u j = u' j) {m : Nat} (hm : m < N) {f : S2} : lb1 N G u m f = lb1 N G' u' m f := by
  unfold lb1
  rw [lbP_c h1 h2 hm, lbS_c (h1 m hm)]
theorem lb2_c {G' : Fn2} {u' : Fn1} (h1 : ∀ m, m < N → ∀ j, j < 4 → G m j = G' m j) (h2 : ∀ j, j < 6 → u j = u' j) {rk : Int32} {m : Nat} (hm : m < N) {f : S2} : lb2 N G u rk m f = lb2 N G' u' rk m f := by
  unfold lb2 onP
  rw [lb1_c h1 h2 hm, h1 m hm 1 (by omega), h1 m hm 2 (by omega), h1 m hm 3 (by omega), h2 1 (by omega), h2 2 (by omega), h2 3 (by omega), h2 4 (by omega)]
theorem itF_c {α : Type} {g g' : Nat → α → α} : ∀ {d j : Nat} {f : α}, (∀ q, j ≤ q → q < j + d → ∀ f, g q f = g' q f) → itF g d j f = itF g' d j f
  | 0, j, f, h => rfl
  | d + 1, j, f, h => by
    rw [itF_s, itF_s, h j (Nat.le_refl j) (by omega), itF_c (fun q h1 h2 => h q (by omega) (by omega))]
theorem lb3_c {G' : Fn2} {u' : Fn1} (h1 : ∀ m, m < N → ∀ j, j < 4 → G m j = G' m j) (h2 : ∀ j, j < 6 → u j = u' j) {sc : Nat} : ∀ {d : Nat} {f : S2}, lb3 N G u d sc f = lb3 N G' u' d sc f
  | 0, f => rfl
  | d + 1, f => by
    rw [lb3_s, lb3_s, itF_c (g' := lb2 N G' u' (nI (sc + d))) (fun q _ hq f => lb2_c h1 h2 (by omega)), lb3_c h1 h2]
theorem lab_cong {G' : Fn2} {u' : Fn1} (h1 : ∀ m, m < N → ∀ j, j < 4 → G m j = G' m j) (h2 : ∀ j, j < 6 → u j = u' j) {f g : Fn1} {sc : Nat} : lbA N G u f g sc = lbA N G' u' f g sc := lb3_c h1 h2
theorem laF_no {g : Nat → Bool} : ∀ {d j : Nat} {a : Int32}, (∀ q, j ≤ q → q < j + d → g q = false) → laF g d j a = a
  | 0, j, a, h => rfl
  | d + 1, j, a, h => by
    rw [laF_s, h j (Nat.le_refl j) (by omega), if_neg Bool.false_ne_true, laF_no (fun q h1 h2 => h q (by omega) (by omega))]
/-- the first and the last that takes it are one -/
theorem la_lt {g : Nat → Bool} : ∀ {d j : Nat}, (∀ p q, j ≤ p → p < j + d → j ≤ q → q < j + d → g p = true → g q = true → p = q) → laF g d j (-1) = ltF g d j
  | 0, j, h => rfl
  | d + 1, j, h => by
    rw [laF_s, ltF_s]
    cases e : g j
    · rw [if_neg Bool.false_ne_true, if_neg Bool.false_ne_true, la_lt (fun p q h1 h2 h3 h4 => h p q (by omega) (by omega) (by omega) (by omega))]
    · rw [if_pos rfl, if_pos rfl, laF_no]
      intro q h1 h2
      cases e2 : g q
      · rfl
      · have := h j q (Nat.le_refl j) (by omega) (by omega) (by omega) e e2
        omega
theorem at_eq (hN : N ≤ 10) (hG : NmG N G) {sc : Nat} {f f' : S2} (hA : Ag f f') (hJ : Jk N G sc f) {x y : Nat} (hx : x < 40) (hy : y < 40) : ltF (tkB f.1 G (plV (nI x) (nI y)) (nI 1)) N 0 = laF (fun o => takM (f'.1 o) (G o 0) (nI x) (nI y)) N 0 (-1) := by
  have e : ∀ q, 0 ≤ q → q < 0 + N → tkB f.1 G (plV (nI x) (nI y)) (nI 1) q = takM (f'.1 q) (G q 0) (nI x) (nI y) := by
    intro q _ hq
    obtain ⟨_, a1, a2, a3⟩ := hG q (by omega)
    have t := tk_iff a2 a3 a1 (hJ.1 q (by omega)) (Nat.le_refl 1) (show x + 1 ≤ 40 by omega) hy
    unfold plV
    rw [pk_mul, nI_add, ← (hA q (by omega)).1, Bool.eq_iff_iff, t]
    constructor
    · rintro ⟨j, hj, h⟩
      have : j = 0 := by omega
      subst this
      exact h
    · exact fun h => ⟨0, by decide, h⟩
  rw [ltF_c e]
  symm
  refine la_lt (fun p q _ hp _ hq h1 h2 => ?_)
  by_cases z : p = q
  · exact z
  · exfalso
    have h1' : takM (f'.1 p) (G p 0) (nI x) (nI y) = true := h1
    have h2' : takM (f'.1 q) (G q 0) (nI x) (nI y) = true := h2
    rw [← (hA p (by omega)).1] at h1'
    rw [← (hA q (by omega)).1] at h2'
    have main : ∀ o, o < N → takM (f.1 o) (G o 0) (nI x) (nI y) = true → ∃ x1 y1, x1 + lnO G o ≤ 40 ∧ y1 < 40 ∧ f.1 o = nI (y1 * 40 + x1) ∧ y = y1 ∧ x1 ≤ x ∧ x < x1 + lnO G o := by
      intro o ho h
      obtain ⟨_, a1, a2, a3⟩ := hG o ho
      unfold takM at h
      rcases hJ.1 o ho with c | ⟨x1, y1, c1, c2, c3⟩
      · rw [c] at h
        simp at h
      · rw [c3, a1, xO_n (by omega) c2, yO_n (by omega) c2, nI_add, pk_sub (by omega)] at h
        unfold inR at h
        simp only [Bool.and_eq_true, Bool.not_eq_true', decide_eq_false_iff_not, decide_eq_true_iff, nI_ltI (show x < 2 ^ 31 by omega) (show x1 < 2 ^ 31 by omega), nI_leI (show x < 2 ^ 31 by omega) (show x1 + lnO G o - 1 < 2 ^ 31 by omega), nI_eq (show y < 2 ^ 31 by omega) (show y1 < 2 ^ 31 by omega)] at h
        exact ⟨x1, y1, c1, c2, c3, h.2.1, by omega, by omega⟩
    obtain ⟨x1, y1, c1, c2, c3, c4, c5, c6⟩ := main p (by omega) h1'
    obtain ⟨x2, y2, d1, d2, d3, d4, d5, d6⟩ := main q (by omega) h2'
    have := hJ.2.1 p q x1 y1 x2 y2 (by omega) (by omega) z c1 d1 c3 d3 c2 d2
    omega
end
