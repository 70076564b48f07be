/-! labels lie on their sheet, not in its fold, apart from one another -/
theorem sb_lt {a b c d : Nat} (ha : a < 2 ^ 30) (hb : b < 2 ^ 30) (hc : c < 2 ^ 30) (hd : d < 2 ^ 30) : (nI a - nI b < nI c - nI d) = (a + d < c + b) := by
  refine propext ?_
  rw [Int32.lt_iff_toInt_lt, pk_sub_toInt ha hb, pk_sub_toInt hc hd]
  omega
theorem sb_0 (a : Nat) : nI a = nI a - nI 0 := by rw [nI_0]; exact (Int32.sub_zero _).symm
set_option maxRecDepth 100000 in
theorem en_9 : ∀ a, a < 49 → ∀ L, L ≤ 8 → nI a - nI 8 + nI L - nI 1 = nI (a + L) - nI 9 := by decide +kernel
set_option maxRecDepth 100000 in
theorem xl_8 : ∀ X, X < 40 → ∀ L, L ≤ 8 → nI X - nI L = nI (X + 8 - L) - nI 8 := by decide +kernel
theorem lbX_r {X L sd : Nat} (hX : X < 40) (hL : L ≤ 8) : ∃ a, a < 49 ∧ lbX (nI X) (nI L) (nI sd) = nI a - nI 8 := by
  unfold lbX
  by_cases h1 : nI sd = 0
  · rw [if_pos h1]
    exact ⟨X + 1 + 8, by omega, by rw [pk_sub (by omega), Nat.add_sub_cancel, nI_add]⟩
  · rw [if_neg h1]
    by_cases h2 : nI sd = nI 1
    · rw [if_pos h2]
      exact ⟨X + 8 - L, by omega, xl_8 X hX L hL⟩
    · rw [if_neg h2]
      exact ⟨X + 8, by omega, by rw [pk_sub (by omega), Nat.add_sub_cancel]⟩
theorem lbY_r {Y sd : Nat} (hY : Y < 40) : ∃ b, b < 42 ∧ lbY (nI Y) (nI sd) = nI b - nI 1 := by
  unfold lbY
  by_cases h1 : nI sd = nI 2
  · rw [if_pos h1]
    exact ⟨Y + 2, by omega, by rw [pk_sub (by omega), nI_add]; rfl⟩
  · rw [if_neg h1]
    by_cases h2 : nI sd = nI 3
    · rw [if_pos h2]
      exact ⟨Y, by omega, rfl⟩
    · rw [if_neg h2]
      exact ⟨Y + 1, by omega, by rw [pk_sub (by omega), Nat.add_sub_cancel]⟩
theorem fsF_P {f : Nat → Bool} : ∀ {d j : Nat}, fsF f d j < j + d → f (fsF f d j) = true
  | 0, j, h => by rw [fsF_0] at h; omega
  | d + 1, j, h => by
    rw [fsF_s] at h ⊢
    cases e : f j
    · rw [e, if_neg Bool.false_ne_true] at h
      rw [if_neg Bool.false_ne_true]
      exact fsF_P (by omega)
    · rw [if_pos rfl]
      exact e
theorem ltF_no {f : Nat → Bool} : ∀ {d j : Nat}, j + d < 2 ^ 31 → (ltF f d j = -1 ↔ ∀ q, j ≤ q → q < j + d → f q = false)
  | 0, j, hb => by
    rw [ltF_0]
    exact ⟨fun _ q h1 h2 => by omega, fun _ => rfl⟩
  | d + 1, j, hb => by
    rw [ltF_s]
    cases e : f j
    · rw [if_neg Bool.false_ne_true, ltF_no (by omega)]
      constructor
      · intro h q h1 h2
        by_cases z : q = j
        · rw [z]; exact e
        · exact h q (by omega) (by omega)
      · exact fun h q h1 h2 => h q (by omega) (by omega)
    · rw [if_pos rfl]
      constructor
      · exact fun h => absurd h (nI_m1 (by omega))
      · intro h
        rw [h j (Nat.le_refl j) (by omega)] at e
        cases e
theorem ltF_is {f : Nat → Bool} {m : Nat} (hm : f m = true) : ∀ {d j : Nat}, j ≤ m → m < j + d → (∀ q, j ≤ q → q < m → f q = false) → ltF f d j = nI m
  | 0, j, h1, h2, h => by omega
  | d + 1, j, h1, h2, h => by
    rw [ltF_s]
    by_cases z : j = m
    · rw [z, hm, if_pos rfl]
    · rw [h j (Nat.le_refl j) (by omega), if_neg Bool.false_ne_true]
      exact ltF_is hm (by omega) (by omega) (fun q z1 z2 => h q (by omega) z2)
/-- a name's numbers -/
def NmD (G : Fn2) (m L R X Y : Nat) : Prop := 1 ≤ L ∧ L ≤ 8 ∧ R ≤ 3 ∧ X < 40 ∧ Y < 40 ∧ G m 0 = nI L ∧ G m 1 = nI R ∧ G m 2 = nI X ∧ G m 3 = nI Y
/-- a sheet's numbers -/
def UmD (u : Fn1) (a b r t g : Nat) : Prop := a < 40 ∧ b < 40 ∧ r < 40 ∧ t < 40 ∧ g < 41 ∧ u 1 = nI a ∧ u 2 = nI b ∧ u 3 = nI r ∧ u 4 = nI t ∧ u 5 = nI g - nI 1
abbrev rmU (G : Fn2) (u : Fn1) (m sd : Nat) : Bool := rmR (u 1) (u 2) (u 3) (u 4) (u 5) (lbX (G m 2) (G m 0) (nI sd)) (lbY (G m 3) (nI sd)) (G m 0)
section
variable {N : Nat} {G : Fn2} {u : Fn1} {m sd L R X Y a b r t g : Nat}
/-- where a label lies that has room -/
theorem rm_e (hG : NmD G m L R X Y) (hu : UmD u a b r t g) (h : rmU G u m sd = true) : ∃ x y, lbX (nI X) (nI L) (nI sd) = nI x ∧ lbY (nI Y) (nI sd) = nI y ∧ a ≤ x ∧ x + L ≤ r + 1 ∧ b ≤ y ∧ y ≤ t ∧ (g ≤ x ∨ x + L < g) := by
  obtain ⟨l1, l8, hR, hX, hY, eL, eR, eX, eY⟩ := hG
  obtain ⟨ha, hb, hr, ht, hg, ua, ub, ur, ut, ug⟩ := hu
  obtain ⟨a0, ha0, eF⟩ := lbX_r (sd := sd) hX l8
  obtain ⟨b0, hb0, eA⟩ := lbY_r (sd := sd) hY
  unfold rmU rmR at h
  rw [eX, eY, eL, eF, eA, ua, ub, ur, ut, ug, en_9 a0 ha0 _ l8, sb_0 a, sb_0 b, sb_0 r, sb_0 t] at h
  simp only [Bool.and_eq_true, Bool.not_eq_true', decide_eq_false_iff_not, ← Bool.not_eq_true, decide_eq_true_iff, sb_lt (show a0 < 2 ^ 30 by omega) (show 8 < 2 ^ 30 by decide) (show a < 2 ^ 30 by omega) (show 0 < 2 ^ 30 by decide), sb_lt (show r < 2 ^ 30 by omega) (show 0 < 2 ^ 30 by decide) (show a0 + L < 2 ^ 30 by omega) (show 9 < 2 ^ 30 by decide), sb_lt (show b0 < 2 ^ 30 by omega) (show 1 < 2 ^ 30 by decide) (show b < 2 ^ 30 by omega) (show 0 < 2 ^ 30 by decide), sb_lt (show t < 2 ^ 30 by omega) (show 0 < 2 ^ 30 by decide) (show b0 < 2 ^ 30 by omega) (show 1 < 2 ^ 30 by decide), sb_lt (show g < 2 ^ 30 by omega) (show 1 < 2 ^ 30 by decide) (show a0 < 2 ^ 30 by omega) (show 8 < 2 ^ 30 by decide), sb_lt (show a0 + L < 2 ^ 30 by omega) (show 9 < 2 ^ 30 by decide) (show g < 2 ^ 30 by omega) (show 1 < 2 ^ 30 by decide)] at h
  obtain ⟨⟨h1, h2, h3, h4⟩, h5⟩ := h
  refine ⟨a0 - 8, b0 - 1, by rw [eF, pk_sub (by omega)], by rw [eA, pk_sub (by omega)], by omega, by omega, by omega, by omega, ?_⟩
  by_cases z : g ≤ a0 - 8
  · exact Or.inl z
  · refine Or.inr ?_
    by_cases z2 : a0 - 8 + L < g
    · exact z2
    · exact absurd ⟨by omega, by omega⟩ h5
/-- the label of a name: none, or one that has room -/
def LbN (G : Fn2) (u : Fn1) (sc : Nat) (f : S2) (o : Nat) : Prop := (f.1 o = -1 ∧ f.2 o = -1) ∨ ∃ sd, sd < 4 ∧ f.2 o = nI sd ∧ f.1 o = lbS (G o) sd ∧ rmU G u o sd = true ∧ ∃ k, sc ≤ k ∧ k ≤ 3 ∧ G o 1 = nI k
/-- no two labels take one place -/
def LbD (N : Nat) (G : Fn2) (f : S2) : Prop := ∀ o o', o < N → o' < N → o ≠ o' → ∀ p q, p < 1600 → q < 1600 → f.1 o = nI p → f.1 o' = nI q → p + (G o 0).toNatClampNeg ≤ q ∨ q + (G o' 0).toNatClampNeg ≤ p
def LbJ (N : Nat) (G : Fn2) (u : Fn1) (sc : Nat) (f : S2) : Prop := (∀ o, o < N → LbN G u sc f o) ∧ LbD N G f
theorem tk_no {f : Fn1} {o p q : Nat} {L : Nat} (hL : L ≤ 8) (hG : NmD G o L R X Y) {L' : Nat} (hL' : L' ≤ 8) (hp : p < 1600) (hq : q < 1600) (e : f o = nI q) (h : tkB f G (nI p) (nI L') o = false) : p + L' ≤ q ∨ q + L ≤ p := by
  obtain ⟨l1, l8, hR, hX, hY, eL, eR, eX, eY⟩ := hG
  unfold tkB at h
  rw [e, eL, nI_add, nI_add, decide_eq_false (nI_m1 (by omega))] at h
  rw [← Bool.not_eq_true] at h
  simp only [Bool.not_false, Bool.true_and, Bool.and_eq_true, Bool.not_eq_true', decide_eq_false_iff_not, nI_leI (show p + L' < 2 ^ 31 by omega) (show q < 2 ^ 31 by omega), nI_leI (show q + L < 2 ^ 31 by omega) (show p < 2 ^ 31 by omega)] at h
  omega
theorem lb_1 (hN : N ≤ 10) (hG : ∀ o, o < N → ∃ L R X Y, NmD G o L R X Y) (hu : UmD u a b r t g) {sc k : Nat} (h1 : sc ≤ k) (h2 : k ≤ 3) (hm : m < N) {f : S2} (hJ : LbJ N G u sc f) : LbJ N G u sc (lb2 N G u (nI k) m f) := by
  unfold lb2
  split
  · next hc =>
    have hr := of_decide_eq_true ((Bool.and_eq_true _ _).mp hc).1
    unfold lb1
    split
    · next hs4 =>
      have hP := fsF_P (f := lbP f.1 N G u m) (d := 4) (j := 0) (by omega)
      generalize fsF (lbP f.1 N G u m) 4 0 = sd at *
      unfold lbP at hP
      obtain ⟨p1, p2⟩ := (Bool.and_eq_true _ _).mp hP
      have p3 := (ltF_no (by omega)).mp (of_decide_eq_true p2)
      obtain ⟨L, R, X, Y, hd⟩ := hG m hm
      obtain ⟨x, y, ex, ey, b1, b2, b3, b4, b5⟩ := rm_e hd hu p1
      obtain ⟨l1, l8, hR, hX, hY, eL, eR, eX, eY⟩ := hd
      obtain ⟨ha, hb, hr', ht, hg, _⟩ := hu
      have eS : lbS (G m) sd = nI (y * 40 + x) := by
        unfold lbS
        rw [eX, eY, eL, ex, ey, pk_mul, nI_add]
      have hpl : y * 40 + x < 1600 := by omega
      have main : ∀ o' q, o' < N → o' ≠ m → q < 1600 → f.1 o' = nI q → y * 40 + x + L ≤ q ∨ q + (G o' 0).toNatClampNeg ≤ y * 40 + x := by
        intro o' q ho' hne hq e'
        obtain ⟨L', R', X', Y', hd'⟩ := hG o' ho'
        have t := p3 o' (Nat.zero_le o') (by omega)
        rw [eS, eL] at t
        have := tk_no hd'.2.1 hd' l8 hpl hq e' t
        rw [hd'.2.2.2.2.2.1, nI_clamp (by have := hd'.2.1; omega)]
        exact this
      have cl : (G m 0).toNatClampNeg = L := by rw [eL, nI_clamp (by omega)]
      refine ⟨fun o ho => ?_, fun o o' ho ho' hne p q hp hq e1 e2 => ?_⟩
      · by_cases z : o = m
        · subst z
          refine Or.inr ⟨sd, by omega, upd_s, upd_s, p1, k, h1, h2, hr⟩
        · have := hJ.1 o ho
          unfold LbN at this ⊢
          show (upd f.1 m _ o = -1 ∧ upd f.2 m _ o = -1) ∨ ∃ s, s < 4 ∧ upd f.2 m _ o = nI s ∧ upd f.1 m _ o = lbS (G o) s ∧ _
          rw [upd_n z, upd_n z]
          exact this
      · have e1 : upd f.1 m (lbS (G m) sd) o = nI p := e1
        have e2 : upd f.1 m (lbS (G m) sd) o' = nI q := e2
        by_cases z1 : o = m
        · subst z1
          rw [upd_s, eS] at e1
          rw [upd_n (Ne.symm hne)] at e2
          have e1' := (nI_eq (by omega) (by omega)).mp e1
          have := main o' q ho' (Ne.symm hne) hq e2
          rw [cl]
          omega
        · by_cases z2 : o' = m
          · subst z2
            rw [upd_s, eS] at e2
            rw [upd_n z1] at e1
            have e2' := (nI_eq (by omega) (by omega)).mp e2
            have := main o p ho z1 hp e1
            rw [cl]
            omega
          · rw [upd_n z1] at e1
            rw [upd_n z2] at e2
            exact hJ.2 o o' ho ho' hne p q hp hq e1 e2
    · exact hJ
  · exact hJ
theorem lb_2 (hN : N ≤ 10) (hG : ∀ o, o < N → ∃ L R X Y, NmD G o L R X Y) (hu : UmD u a b r t g) {sc k : Nat} (h1 : sc ≤ k) (h2 : k ≤ 3) : ∀ (d m : Nat) (f : S2), m + d = N → LbJ N G u sc f → LbJ N G u sc (itF (lb2 N G u (nI k)) d m f)
  | 0, m, f, hj, hJ => hJ
  | d + 1, m, f, hj, hJ => by
    rw [itF_s]
    exact lb_2 hN hG hu h1 h2 d (m + 1) _ (by omega) (lb_1 hN hG hu h1 h2 (by omega) hJ)
theorem lb_3 (hN : N ≤ 10) (hG : ∀ o, o < N → ∃ L R X Y, NmD G o L R X Y) (hu : UmD u a b r t g) {sc : Nat} : ∀ (d : Nat) (f : S2), sc + d ≤ 4 → LbJ N G u sc f → LbJ N G u sc (lb3 N G u d sc f)
  | 0, f, hj, hJ => hJ
  | d + 1, f, hj, hJ => by
    rw [lb3_s]
    exact lb_3 hN hG hu d _ (by omega) (lb_2 hN hG hu (by omega) (by omega) N 0 f (Nat.zero_add N) hJ)
theorem lb_A (hN : N ≤ 10) (hG : ∀ o, o < N → ∃ L R X Y, NmD G o L R X Y) (hu : UmD u a b r t g) {sc : Nat} (hsc : sc ≤ 3) {f g : Fn1} : LbJ N G u sc (lbA N G u f g sc) := by
  unfold lbA
  refine lb_3 hN hG hu _ _ (by omega) ⟨fun o ho => Or.inl ⟨cp_lt (show o < 10 by omega), cp_lt (show o < 10 by omega)⟩, fun o o' ho ho' hne p q hp hq e1 e2 => ?_⟩
  have e1 : cp 10 f nn1 o = nI p := e1
  rw [cp_lt (by omega)] at e1
  exact absurd e1.symm (nI_m1 (by omega))
/-- all that is wanted of a label -/
theorem lb_is (hN : N ≤ 10) (hG : ∀ o, o < N → ∃ L R X Y, NmD G o L R X Y) (hu : UmD u a b r t g) {sc : Nat} {f : S2} (hJ : LbJ N G u sc f) (hm : m < N) (hd : NmD G m L R X Y) : f.2 m = -1 ∨ ∃ sd x y, sd < 4 ∧ f.2 m = nI sd ∧ lbX (nI X) (nI L) (nI sd) = nI x ∧ lbY (nI Y) (nI sd) = nI y ∧ sc ≤ R ∧ a ≤ x ∧ x + L ≤ r + 1 ∧ b ≤ y ∧ y ≤ t ∧ (g ≤ x ∨ x + L < g) ∧ ∀ k, k < L → ltF (tkB f.1 G (nI (y * 40 + (x + k))) (nI 1)) N 0 = nI m := by
  rcases hJ.1 m hm with ⟨_, h⟩ | ⟨sd, s1, s2, s3, s4, k, k1, k2, k3⟩
  · exact Or.inl h
  · obtain ⟨x, y, ex, ey, b1, b2, b3, b4, b5⟩ := rm_e hd hu s4
    obtain ⟨l1, l8, hR, hX, hY, eL, eR, eX, eY⟩ := id hd
    obtain ⟨ha, hb, hr', ht, hg, _⟩ := id hu
    have eS : f.1 m = nI (y * 40 + x) := by
      rw [s3]
      unfold lbS
      rw [eX, eY, eL, ex, ey, pk_mul, nI_add]
    have hk : R = k := (nI_eq (by omega) (by omega)).mp (eR.symm.trans k3)
    refine Or.inr ⟨sd, x, y, s1, s2, ex, ey, by omega, b1, b2, b3, b4, b5, fun j hj => ?_⟩
    refine ltF_is ?_ (Nat.zero_le m) (by omega) (fun o _ ho => ?_)
    · unfold tkB
      rw [eS, eL, nI_add, nI_add, decide_eq_false (nI_m1 (by omega)), decide_eq_false (fun z => by have := (nI_leI (by omega) (by omega)).mp z; omega), decide_eq_false (fun z => by have := (nI_leI (by omega) (by omega)).mp z; omega)]
      rfl
    · rcases hJ.1 o (by omega) with ⟨h, _⟩ | ⟨sd', t1, t2, t3, t4, _⟩
      · unfold tkB
        rw [h]
        simp
      · obtain ⟨L', R', X', Y', hd'⟩ := hG o (by omega)
        obtain ⟨x', y', ex', ey', c1, c2, c3, c4, c5⟩ := rm_e hd' hu t4
        obtain ⟨l1', l8', hR', hX', hY', eL', eR', eX', eY'⟩ := id hd'
        have eS' : f.1 o = nI (y' * 40 + x') := by
          rw [t3]
          unfold lbS
          rw [eX', eY', eL', ex', ey', pk_mul, nI_add]
        have D := hJ.2 m o hm (by omega) (by omega) (y * 40 + x) (y' * 40 + x') (by omega) (by omega) eS eS'
        rw [eL, eL', nI_clamp (by omega), nI_clamp (by omega)] at D
        cases z : tkB f.1 G (nI (y * 40 + (x + j))) (nI 1) o
        · rfl
        · exfalso
          unfold tkB at z
          rw [eS', eL', nI_add, nI_add] at z
          simp only [Bool.and_eq_true, Bool.not_eq_true', decide_eq_false_iff_not, nI_leI (show y * 40 + (x + j) + 1 < 2 ^ 31 by omega) (show y' * 40 + x' < 2 ^ 31 by omega), nI_leI (show y' * 40 + x' + L' < 2 ^ 31 by omega) (show y * 40 + (x + j) < 2 ^ 31 by omega)] at z
          omega
end
