/-! class and model: the same labels -/
theorem ltF_c {f g : Nat → Bool} : ∀ {d j : Nat}, (∀ q, j ≤ q → q < j + d → f q = g q) → ltF f d j = ltF g d j
  | 0, j, h => rfl
  | d + 1, j, h => by
    rw [ltF_s, ltF_s, h j (Nat.le_refl j) (by omega), ltF_c (fun q h1 h2 => h q (by omega) (by omega))]
theorem ltF_no {f : Nat → Bool} : ∀ {d j : Nat}, j + d < 2 ^ 31 → (ltF f d j = -1 ↔ ∀ q, j ≤ q → q < j + d → f q = false)
  | 0, j, hb => by
    rw [ltF_0]
    exact ⟨fun _ q h1 h2 => by omega, fun _ => rfl⟩
  | d + 1, j, hb => by
    rw [ltF_s]
    cases e : f j
    · rw [if_neg Bool.false_ne_true, ltF_no (by omega)]
      constructor
      · intro h q h1 h2
        by_cases z : q = j
        · rw [z]; exact e
        · exact h q (by omega) (by omega)
      · exact fun h q h1 h2 => h q (by omega) (by omega)
    · rw [if_pos rfl]
      constructor
      · exact fun h => absurd h (nI_m1 (by omega))
      · intro h
        rw [h j (Nat.le_refl j) (by omega)] at e
        cases e
theorem fsF_c {f g : Nat → Bool} : ∀ {d j : Nat}, (∀ q, j ≤ q → q < j + d → f q = g q) → fsF f d j = fsF g d j
  | 0, j, h => rfl
  | d + 1, j, h => by
    rw [fsF_s, fsF_s, h j (Nat.le_refl j) (by omega), fsF_c (fun q h1 h2 => h q (by omega) (by omega))]
theorem fsF_P {f : Nat → Bool} : ∀ {d j : Nat}, fsF f d j < j + d → f (fsF f d j) = true
  | 0, j, h => by rw [fsF_0] at h; omega
  | d + 1, j, h => by
    rw [fsF_s] at h ⊢
    cases e : f j
    · rw [e, if_neg Bool.false_ne_true] at h
      rw [if_neg Bool.false_ne_true]
      exact fsF_P (by omega)
    · rw [if_pos rfl]
      exact e
/-- a number between -100 and 100, and what comparing it says -/
theorem sb_lt {a b c d : Nat} (ha : a < 2 ^ 30) (hb : b < 2 ^ 30) (hc : c < 2 ^ 30) (hd : d < 2 ^ 30) : (nI a - nI b < nI c - nI d) = (a + d < c + b) := by
  refine propext ?_
  rw [Int32.lt_iff_toInt_lt, pk_sub_toInt ha hb, pk_sub_toInt hc hd]
  omega
theorem sb_0 (a : Nat) : nI a = nI a - nI 0 := by rw [nI_0]; exact (Int32.sub_zero _).symm
theorem sb_eq {a b c d : Nat} (ha : a < 2 ^ 30) (hb : b < 2 ^ 30) (hc : c < 2 ^ 30) (hd : d < 2 ^ 30) : (nI a - nI b = nI c - nI d) = (a + d = c + b) := by
  refine propext ?_
  rw [← Int32.toInt_inj, pk_sub_toInt ha hb, pk_sub_toInt hc hd]
  omega
set_option maxRecDepth 100000 in
theorem en_9 : ∀ a, a < 49 → ∀ L, L ≤ 8 → nI a - nI 8 + nI L - nI 1 = nI (a + L) - nI 9 := by decide +kernel
set_option maxRecDepth 100000 in
theorem st_8 : ∀ a, a < 49 → ∀ j, j ≤ 8 → nI a - nI 8 + nI j = nI (a + j) - nI 8 := by decide +kernel
theorem lbY_r {Y sd : Nat} (hY : Y < 40) : ∃ b, b < 42 ∧ lbY (nI Y) (nI sd) = nI b - nI 1 := by
  unfold lbY
  by_cases h1 : nI sd = nI 2
  · rw [if_pos h1]
    exact ⟨Y + 2, by omega, by rw [pk_sub (by omega), nI_add]; rfl⟩
  · rw [if_neg h1]
    by_cases h2 : nI sd = nI 3
    · rw [if_pos h2]
      exact ⟨Y, by omega, rfl⟩
    · rw [if_neg h2]
      exact ⟨Y + 1, by omega, by rw [pk_sub (by omega), Nat.add_sub_cancel]⟩
/-- a sheet's numbers -/
def UmG (u : Fn1) : Prop := ∃ a b r t g, a < 40 ∧ b < 40 ∧ r < 40 ∧ t < 40 ∧ g < 41 ∧ u 1 = nI a ∧ u 2 = nI b ∧ u 3 = nI r ∧ u 4 = nI t ∧ u 5 = nI g - nI 1
def LbO (G : Fn2) (f : Fn1) (m : Nat) : Prop := f m = -1 ∨ ∃ x y, x + lnO G m ≤ 40 ∧ y < 40 ∧ f m = nI (y * 40 + x)
theorem tk_iff {f : Fn1} {G : Fn2} {o x0 y0 L : Nat} (hL : 1 ≤ lnO G o) (hL8 : lnO G o ≤ 8) (hG : G o 0 = nI (lnO G o)) (h : LbO G f o) (hL1 : 1 ≤ L) (hx : x0 + L ≤ 40) (hy : y0 < 40) : tkB f G (nI (y0 * 40 + x0)) (nI L) o = true ↔ ∃ j, j < L ∧ takM (f o) (G o 0) (nI (x0 + j)) (nI y0) = true := by
  unfold tkB takM
  rcases h with h | ⟨x, y, h1, h2, h3⟩
  · rw [h]
    simp
  · have e1 : ¬ nI (y * 40 + x) = -1 := nI_m1 (by omega)
    have e2 : (nI (y0 * 40 + x0) + nI L ≤ nI (y * 40 + x)) = (y0 * 40 + x0 + L ≤ y * 40 + x) := by
      rw [nI_add]
      exact propext (nI_leI (by omega) (by omega))
    have e3 : (nI (y * 40 + x) + nI (lnO G o) ≤ nI (y0 * 40 + x0)) = (y * 40 + x + lnO G o ≤ y0 * 40 + x0) := by
      rw [nI_add]
      exact propext (nI_leI (by omega) (by omega))
    rw [h3, hG, xO_n (by omega) h2, yO_n (by omega) h2, decide_eq_false e1]
    simp only [e2, e3, Bool.not_false, Bool.true_and, Bool.and_eq_true, Bool.not_eq_true', decide_eq_false_iff_not, decide_eq_true_iff]
    have e4 : ∀ j, j < L → (inR (nI x) (nI (x0 + j)) (nI x + nI (lnO G o) - nI 1) = true ↔ x ≤ x0 + j ∧ x0 + j < x + lnO G o) := by
      intro j hj
      unfold inR
      rw [nI_add, pk_sub (by omega)]
      simp only [Bool.and_eq_true, Bool.not_eq_true', decide_eq_false_iff_not, decide_eq_true_iff, nI_ltI (show x0 + j < 2 ^ 31 by omega) (show x < 2 ^ 31 by omega), nI_leI (show x0 + j < 2 ^ 31 by omega) (show x + lnO G o - 1 < 2 ^ 31 by omega)]
      omega
    constructor
    · rintro ⟨g1, g2⟩
      refine ⟨x - x0, by omega, ?_, (e4 _ (by omega)).mpr (by omega)⟩
      congr 1
      omega
    · rintro ⟨j, hj, g1, g2⟩
      have g2' := (e4 j hj).mp g2
      have g1' := (nI_eq (show y0 < 2 ^ 31 by omega) (show y < 2 ^ 31 by omega)).mp g1
      omega
theorem room_eq {f : Fn1} {N : Nat} {G : Fn2} {u : Fn1} {m sd : Nat} (hN : N ≤ 10) (hG : NmG N G) (hu : UmG u) (hf : ∀ o, o < N → LbO G f o) (hm : m < N) : lbP f N G u m sd = rmG f N G u m sd ∧ (lbP f N G u m sd = true → ∃ x y, x + lnO G m ≤ 40 ∧ y < 40 ∧ lbS (G m) sd = nI (y * 40 + x) ∧ ∀ o, o < N → tkB f G (nI (y * 40 + x)) (G m 0) o = false) := by
  obtain ⟨⟨X, Y, hX, hY, eX, eY⟩, eL, l1, l8⟩ := hG m hm
  obtain ⟨a, b, r, t, g, ha, hb, hr, ht, hg, ua, ub, ur, ut, ug⟩ := hu
  obtain ⟨a0, ha0, eF⟩ := lbX_r (sd := sd) hX l8
  obtain ⟨b0, hb0, eA⟩ := lbY_r (sd := sd) hY
  unfold lbP rmG lbS
  rw [eX, eY, eL, eF, eA, ua, ub, ur, ut, ug]
  unfold rmR onR
  rw [en_9 a0 ha0 _ l8, sb_0 a, sb_0 b, sb_0 r, sb_0 t]
  simp only [sb_lt (show a0 < 2 ^ 30 by omega) (show 8 < 2 ^ 30 by decide) (show a < 2 ^ 30 by omega) (show 0 < 2 ^ 30 by decide), sb_lt (show r < 2 ^ 30 by omega) (show 0 < 2 ^ 30 by decide) (show a0 < 2 ^ 30 by omega) (show 8 < 2 ^ 30 by decide), sb_lt (show r < 2 ^ 30 by omega) (show 0 < 2 ^ 30 by decide) (show a0 + lnO G m < 2 ^ 30 by omega) (show 9 < 2 ^ 30 by decide), sb_lt (show b0 < 2 ^ 30 by omega) (show 1 < 2 ^ 30 by decide) (show b < 2 ^ 30 by omega) (show 0 < 2 ^ 30 by decide), sb_lt (show t < 2 ^ 30 by omega) (show 0 < 2 ^ 30 by decide) (show b0 < 2 ^ 30 by omega) (show 1 < 2 ^ 30 by decide), sb_lt (show a0 + lnO G m < 2 ^ 30 by omega) (show 9 < 2 ^ 30 by decide) (show a < 2 ^ 30 by omega) (show 0 < 2 ^ 30 by decide), sb_lt (show g < 2 ^ 30 by omega) (show 1 < 2 ^ 30 by decide) (show a0 < 2 ^ 30 by omega) (show 8 < 2 ^ 30 by decide), sb_lt (show a0 + lnO G m < 2 ^ 30 by omega) (show 9 < 2 ^ 30 by decide) (show g < 2 ^ 30 by omega) (show 1 < 2 ^ 30 by decide)]
  by_cases hin : ¬ (a0 + 0 < a + 8) ∧ ¬ (r + 9 < a0 + lnO G m + 0) ∧ ¬ (b0 + 0 < b + 1) ∧ ¬ (t + 1 < b0 + 0)
  · obtain ⟨i1, i2, i3, i4⟩ := hin
    have eF0 : nI a0 - nI 8 = nI (a0 - 8) := pk_sub (by omega)
    have eA0 : nI b0 - nI 1 = nI (b0 - 1) := pk_sub (by omega)
    have eP : nI (b0 - 1) * nI 40 + nI (a0 - 8) = nI ((b0 - 1) * 40 + (a0 - 8)) := by rw [pk_mul, nI_add]
    rw [decide_eq_false i1, decide_eq_false i2, decide_eq_false i3, decide_eq_false i4, decide_eq_false (show ¬ (r + 8 < a0 + 0) by omega), decide_eq_false (show ¬ (a0 + lnO G m + 0 < a + 9) by omega), eF0, eA0, eP]
    simp only [Bool.not_false, Bool.true_and]
    have key : decide (ltF (tkB f G (nI ((b0 - 1) * 40 + (a0 - 8))) (nI (lnO G m))) N 0 = -1) = !anyB (fun j => anyT f G N (nI (a0 - 8) + nI j) (nI (b0 - 1))) (lnO G m) 0 := by
      rw [Bool.eq_iff_iff, decide_eq_true_iff, ltF_no (by omega), Bool.not_eq_true', ← Bool.not_eq_true, anyB_if0]
      unfold anyT
      constructor
      · rintro h ⟨j, hj, h2⟩
        obtain ⟨o, ho, h3⟩ := anyB_if0.mp h2
        rw [nI_add] at h3
        have := (tk_iff (hG o ho).2.2.1 (hG o ho).2.2.2 (hG o ho).2.1 (hf o ho) l1 (show a0 - 8 + lnO G m ≤ 40 by omega) (show b0 - 1 < 40 by omega)).mpr ⟨j, hj, h3⟩
        rw [h o (Nat.zero_le o) (by omega)] at this
        cases this
      · intro h o _ ho
        rw [Nat.zero_add] at ho
        cases e : tkB f G (nI ((b0 - 1) * 40 + (a0 - 8))) (nI (lnO G m)) o
        · rfl
        · obtain ⟨j, hj, h3⟩ := (tk_iff (hG o ho).2.2.1 (hG o ho).2.2.2 (hG o ho).2.1 (hf o ho) l1 (show a0 - 8 + lnO G m ≤ 40 by omega) (show b0 - 1 < 40 by omega)).mp e
          exact absurd ⟨j, hj, anyB_if0.mpr ⟨o, ho, by rw [nI_add]; exact h3⟩⟩ h
    constructor
    · rw [key]
      unfold bdG
      rw [Bool.eq_iff_iff, Bool.and_eq_true, Bool.not_eq_true', Bool.not_eq_true', Bool.not_eq_true', ← Bool.not_eq_true, ← Bool.not_eq_true, ← Bool.not_eq_true, anyB_if0, anyB_if0]
      have ef : ∀ j, j < lnO G m → ((nI (a0 - 8) + nI j = nI g - nI 1) ↔ a0 + j + 1 = g + 8) := by
        intro j hj
        rw [← eF0, st_8 a0 ha0 j (by omega), sb_eq (by omega) (by decide) (by omega) (by decide)]
      constructor
      · rintro ⟨h1, h2⟩ ⟨j, hj, h3⟩
        rw [Bool.or_eq_true, decide_eq_true_iff, ef j hj] at h3
        rcases h3 with h3 | h3
        · refine h1 ?_
          rw [Bool.and_eq_true, Bool.not_eq_true', Bool.not_eq_true', decide_eq_false_iff_not, decide_eq_false_iff_not]
          omega
        · exact h2 ⟨j, hj, h3⟩
      · intro h
        refine ⟨fun h1 => ?_, fun ⟨j, hj, h3⟩ => h ⟨j, hj, by rw [h3, Bool.or_true]⟩⟩
        rw [Bool.and_eq_true, Bool.not_eq_true', Bool.not_eq_true', decide_eq_false_iff_not, decide_eq_false_iff_not] at h1
        refine h ⟨g + 7 - a0, by omega, ?_⟩
        rw [Bool.or_eq_true, decide_eq_true_iff, ef _ (by omega)]
        left
        omega
    · intro h
      have h2 := of_decide_eq_true ((Bool.and_eq_true _ _).mp h).2
      rw [ltF_no (by omega)] at h2
      exact ⟨a0 - 8, b0 - 1, by omega, by omega, rfl, fun o ho => h2 o (Nat.zero_le o) (by omega)⟩
  · have z1 : (!decide (a0 + 0 < a + 8) && (!decide (r + 9 < a0 + lnO G m + 0) && (!decide (b0 + 0 < b + 1) && !decide (t + 1 < b0 + 0)))) = false := by
      rw [← Bool.not_eq_true]
      simp only [Bool.and_eq_true, Bool.not_eq_true', decide_eq_false_iff_not]
      exact hin
    rw [z1, Bool.false_and, Bool.false_and]
    refine ⟨?_, fun h => by cases h⟩
    symm
    rw [← Bool.not_eq_true]
    simp only [Bool.and_eq_true, Bool.not_eq_true', decide_eq_false_iff_not]
    rintro ⟨⟨h1, h2⟩, h3⟩
    exact hin ⟨h1.1, h2.2.1, h1.2.2.1, h1.2.2.2⟩
