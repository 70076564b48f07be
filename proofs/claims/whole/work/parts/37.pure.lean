/-! class and model: the same roads -/
theorem anyB_iff {f : Nat → Bool} : ∀ {d j : Nat}, anyB f d j = true ↔ ∃ q, j ≤ q ∧ q < j + d ∧ f q = true
  | 0, j => by
    rw [anyB_0]
    exact ⟨fun h => absurd h (by decide), fun ⟨q, h1, h2, _⟩ => by omega⟩
  | d + 1, j => by
    rw [anyB_s, Bool.or_eq_true, anyB_iff]
    constructor
    · rintro (h | ⟨q, h1, h2, h3⟩)
      · exact ⟨j, Nat.le_refl j, by omega, h⟩
      · exact ⟨q, by omega, by omega, h3⟩
    · rintro ⟨q, h1, h2, h3⟩
      by_cases e : q = j
      · exact Or.inl (e ▸ h3)
      · exact Or.inr ⟨q, by omega, by omega, h3⟩
theorem anyB_if0 {f : Nat → Bool} {d : Nat} : anyB f d 0 = true ↔ ∃ q, q < d ∧ f q = true := by
  rw [anyB_iff]
  exact ⟨fun ⟨q, _, h2, h3⟩ => ⟨q, by omega, h3⟩, fun ⟨q, h2, h3⟩ => ⟨q, Nat.zero_le q, by omega, h3⟩⟩
theorem anyB_c {f g : Nat → Bool} : ∀ {d j : Nat}, (∀ q, j ≤ q → q < j + d → f q = g q) → anyB f d j = anyB g d j
  | 0, j, h => rfl
  | d + 1, j, h => by
    rw [anyB_s, anyB_s, h j (Nat.le_refl j) (by omega), anyB_c (fun q h1 h2 => h q (by omega) (by omega))]
theorem anyB_c0 {f g : Nat → Bool} {d : Nat} (h : ∀ q, q < d → f q = g q) : anyB f d 0 = anyB g d 0 := anyB_c (fun q _ h2 => h q (by omega))
theorem cntI_c {f g : Nat → Bool} : ∀ {d j : Nat} {a : Int32}, (∀ q, j ≤ q → q < j + d → f q = g q) → cntI f d j a = cntI g d j a
  | 0, j, a, h => rfl
  | d + 1, j, a, h => by
    rw [cntI_s, cntI_s, h j (Nat.le_refl j) (by omega), cntI_c (fun q h1 h2 => h q (by omega) (by omega))]
theorem gF_c {bit bit' met met' : Nat → Bool} {tri tri' : Nat → Int32} : ∀ {d p : Nat} {a g : Int32}, (∀ q, p ≤ q → q < p + d → bit q = bit' q ∧ met q = met' q ∧ tri q = tri' q) → gF bit met tri d p a g = gF bit' met' tri' d p a g
  | 0, p, a, g, h => rfl
  | d + 1, p, a, g, h => by
    obtain ⟨h1, h2, h3⟩ := h p (Nat.le_refl p) (by omega)
    rw [gF_s, gF_s, h1, h2, h3, gF_c (fun q z1 z2 => h q (by omega) (by omega)), gF_c (fun q z1 z2 => h q (by omega) (by omega))]
theorem prF_c {f g : Nat → Nat → Bool} {N : Nat} : ∀ {d a : Nat} {acc : Int32}, a + d = N → (∀ a b, a < b → b < N → f a b = g a b) → prF f N d a acc = prF g N d a acc
  | 0, a, acc, ha, h => rfl
  | d + 1, a, acc, ha, h => by
    rw [prF_s, prF_s, cntI_c (fun q h1 h2 => h a q (by omega) (by omega)), prF_c (by omega) h]
theorem lF_c {g g' : Int32 → Int32} (h : ∀ S, g S = g' S) : g = g' := funext h
theorem xO_n {x y : Nat} (hx : x < 40) (hy : y < 40) : xO (nI (y * 40 + x)) = nI x := by
  unfold xO
  rw [pk_rem (by omega) (by decide) (by decide)]
  congr 1
  omega
theorem yO_n {x y : Nat} (hx : x < 40) (hy : y < 40) : yO (nI (y * 40 + x)) = nI y := by
  unfold yO
  rw [pk_div (by omega) (by decide) (by decide)]
  congr 1
  omega
def RdT (N : Nat) (A B : Fn2) (X Y Z RK : Fn1) : Prop := ∀ r, r < N → A r 2 = Z r ∧ A r 3 = RK r ∧ ∀ p, p < szO A r → ∃ x y, x < 40 ∧ y < 40 ∧ X (8 * r + p) = nI x ∧ Y (8 * r + p) = nI y ∧ B r p = nI (y * 40 + x)
section
variable {N : Nat} {A B C : Fn2} {X Y Z RK : Fn1} {r : Nat} {s : Int32}
theorem RdT_sz (h : RdT N A B X Y Z RK) (hr : r < N) : szO A r = szN Z r := by
  unfold szO szN
  rw [(h r hr).1]
theorem pl_eq (h : RdT N A B X Y Z RK) {o p q : Nat} (hr : r < N) (ho : o < N) (hp : p < szO A r) (hq : q < szO A o) : decide (B o q = B r p) = (decide (X (8 * o + q) = X (8 * r + p)) && decide (Y (8 * o + q) = Y (8 * r + p))) := by
  obtain ⟨x1, y1, a1, a2, a3, a4, a5⟩ := (h r hr).2.2 p hp
  obtain ⟨x2, y2, b1, b2, b3, b4, b5⟩ := (h o ho).2.2 q hq
  rw [a3, a4, a5, b3, b4, b5, ← Bool.decide_and, decide_eq_decide, nI_eq (by omega) (by omega), nI_eq (by omega) (by omega), nI_eq (by omega) (by omega)]
  omega
theorem hpA_eq {o : Nat} {pl : Int32} (hz : A o 2 = nI (szO A o)) (h8 : szO A o ≤ 8) : hpA A B o pl (allP A o) = anyB (fun q => decide (B o q = pl)) (szO A o) 0 := by
  obtain ⟨a1, a2, a3, a4⟩ := all_bit (szO A o) h8
  unfold hpA
  refine anyB_c0 (fun q hq => ?_)
  unfold allP
  rw [hz, a1, hs_bit _ a2 q (by omega), a4 q (by omega), decide_eq_true hq, Bool.true_and]
theorem met_eq (h : RdT N A B X Y Z RK) (hA : ∀ i, i < N → A i 2 = nI (szO A i) ∧ szO A i ≤ 8) (hr : r < N) {p : Nat} (hp : p < szO A r) : metC A B N r (B r p) s = shrM X Y Z RK N r (8 * r + p) s := by
  unfold metC shrM
  refine anyB_c0 (fun o ho => ?_)
  rw [hpA_eq (hA o ho).1 (hA o ho).2, (h o ho).2.1]
  unfold shrM1
  by_cases e1 : o = r
  · rw [Bool.eq_iff_iff, anyB_if0]
    simp [e1]
  · by_cases e2 : RK o < s
    · rw [Bool.eq_iff_iff, anyB_if0]
      simp [e2]
    · rw [decide_eq_false e1, decide_eq_false e2, ← RdT_sz h ho]
      simp only [Bool.not_false, Bool.true_and]
      exact anyB_c0 (fun q hq => pl_eq h hr ho hp hq)
theorem tri_eq (h : RdT N A B X Y Z RK) (hr : r < N) {S : Int32} {p : Nat} (h0 : 0 < p) (hp : p < szO A r - 1) : triS (B r) S (szO A r) p = trM X Y r S (szN Z r) p := by
  rw [← RdT_sz h hr]
  unfold triS trM triP triM
  have pa : ahd S (p - 1) < szO A r := Nat.lt_of_le_of_lt ahd_le (by omega)
  have pb : bhd S (szO A r - 1 - (p + 1)) (p + 1) < szO A r := Nat.lt_of_le_of_lt bhd_le.2 (by omega)
  obtain ⟨x1, y1, a1, a2, a3, a4, a5⟩ := (h r hr).2.2 p (by omega)
  obtain ⟨x2, y2, b1, b2, b3, b4, b5⟩ := (h r hr).2.2 _ pa
  obtain ⟨x3, y3, c1, c2, c3, c4, c5⟩ := (h r hr).2.2 _ pb
  rw [a3, a4, a5, b3, b4, b5, c3, c4, c5, xO_n a1 a2, yO_n a1 a2, xO_n b1 b2, yO_n b1 b2, xO_n c1 c2, yO_n c1 c2]
theorem goes_eq (h : RdT N A B X Y Z RK) (hA : ∀ i, i < N → A i 2 = nI (szO A i) ∧ szO A i ≤ 8) (hr : r < N) {S : Int32} : goesC A B N r S s = goesM X Y Z RK N r S s := by
  unfold goesC goesM
  rw [← RdT_sz h hr]
  exact gF_c (fun q h1 h2 => ⟨rfl, met_eq h hA hr (by omega), by rw [tri_eq h hr (by omega) (by omega), RdT_sz h hr]⟩)
theorem left_eq (h : RdT N A B X Y Z RK) (hA : ∀ i, i < N → A i 2 = nI (szO A i) ∧ szO A i ≤ 8) (hr : r < N) : leftC A B N r s = leftM X Y Z RK N r s := by
  unfold leftC leftM allP
  rw [(h r hr).1, (h r hr).2.1, lF_c (fun S => goes_eq h hA hr)]
/-- what is left of a road -/
def LfP (X Y Z RK : Fn1) (N r : Nat) (s : Int32) (T : Nat) : Prop := T < 256 ∧ T.testBit 0 = true ∧ T.testBit (szN Z r - 1) = true ∧ (∀ p, p < 8 → T.testBit p = true → p < szN Z r) ∧ (∀ p, p < szN Z r → T.testBit p = false → shrM X Y Z RK N r (8 * r + p) s = false)
theorem gF_met {bit met : Nat → Bool} {tri : Nat → Int32} : ∀ {d p : Nat} {a g : Int32}, gF bit met tri d p a g = g ∨ ∃ q, p ≤ q ∧ q < p + d ∧ bit q = true ∧ met q = false ∧ gF bit met tri d p a g = nI q
  | 0, p, a, g => Or.inl rfl
  | d + 1, p, a, g => by
    rw [gF_s]
    split
    · next h =>
      obtain ⟨hb, h'⟩ := (Bool.and_eq_true _ _).mp h
      have hm := ((Bool.and_eq_true _ _).mp h').2
      rcases gF_met (bit := bit) (met := met) (tri := tri) (d := d) (p := p + 1) (a := tri p) (g := nI p) with q | ⟨q, h1, h2, h3, h4, h5⟩
      · exact Or.inr ⟨p, Nat.le_refl p, by omega, hb, by simpa using hm, q⟩
      · exact Or.inr ⟨q, by omega, by omega, h3, h4, h5⟩
    · rcases gF_met (bit := bit) (met := met) (tri := tri) (d := d) (p := p + 1) (a := a) (g := g) with q | ⟨q, h1, h2, h3, h4, h5⟩
      · exact Or.inl q
      · exact Or.inr ⟨q, by omega, by omega, h3, h4, h5⟩
theorem lF_P (hz2 : 2 ≤ szN Z r) (hz8 : szN Z r ≤ 8) : ∀ (f T : Nat), LfP X Y Z RK N r s T → ∃ T', lF (fun S => goesM X Y Z RK N r S s) f (nI T) = nI T' ∧ LfP X Y Z RK N r s T'
  | 0, T, h => ⟨T, rfl, h⟩
  | f + 1, T, h => by
    rw [lF_s]
    split
    · exact ⟨T, rfl, h⟩
    · next q =>
      rcases gF_met (bit := fun p => hs (nI T) (nI p)) (met := fun p => shrM X Y Z RK N r (8 * r + p) s) (tri := trM X Y r (nI T) (szN Z r)) (d := szN Z r - 1 - 1) (p := 1) (a := nI 20 * s) (g := -1) with z | ⟨p, h1, h2, h3, h4, h5⟩
      · exact absurd z q
      · have h5' : goesM X Y Z RK N r (nI T) s = nI p := h5
        obtain ⟨a1, a2, a3, a4, a5⟩ := h
        have h3' : hs (nI T) (nI p) = true := h3
        rw [hs_bit T a1 p (by omega)] at h3'
        obtain ⟨o1, o2, o3, o4⟩ := off_bit T a1 p (by omega) h3'
        rw [h5', o1]
        refine lF_P hz2 hz8 f (T ^^^ 2 ^ p) ⟨o3, by rw [off_ne (by omega)]; exact a2, by rw [off_ne (by omega)]; exact a3, fun k hk hb => ?_, fun k hk hb => ?_⟩
        · by_cases e : k = p
          · rw [e, off_eq h3'] at hb; cases hb
          · rw [off_ne e] at hb
            exact a4 k hk hb
        · by_cases e : k = p
          · rw [e]; exact h4
          · rw [off_ne e] at hb
            exact a5 k hk hb
theorem left_P (hZ : Z r = nI (szN Z r)) (hz2 : 2 ≤ szN Z r) (hz8 : szN Z r ≤ 8) : (RK r < s ∧ leftM X Y Z RK N r s = nI 0) ∨ (¬ RK r < s ∧ ∃ T, leftM X Y Z RK N r s = nI T ∧ LfP X Y Z RK N r s T) := by
  unfold leftM
  by_cases e : RK r < s
  · rw [if_pos e]
    exact Or.inl ⟨e, rfl⟩
  · rw [if_neg e]
    obtain ⟨a1, a2, a3, a4⟩ := all_bit (szN Z r) hz8
    rw [hZ, a1]
    refine Or.inr ⟨e, lF_P hz2 hz8 8 _ ⟨a2, ?_, ?_, fun p hp hb => ?_, fun p hp hb => ?_⟩⟩
    · rw [a4 0 (by decide)]; exact decide_eq_true (by omega)
    · rw [a4 _ (by omega)]; exact decide_eq_true (by omega)
    · rw [a4 p hp] at hb
      exact of_decide_eq_true hb
    · rw [a4 p (by omega), decide_eq_true hp] at hb
      cases hb
/-- every set left is a number below 256 -/
theorem left_N (hZ : Z r = nI (szN Z r)) (hz2 : 2 ≤ szN Z r) (hz8 : szN Z r ≤ 8) : ∃ T, T < 256 ∧ leftM X Y Z RK N r s = nI T ∧ ∀ p, p < 8 → T.testBit p = true → p < szN Z r := by
  rcases left_P (X := X) (Y := Y) (RK := RK) (N := N) (s := s) hZ hz2 hz8 with ⟨_, h⟩ | ⟨_, T, h1, h2⟩
  · exact ⟨0, by decide, h, fun p _ hb => by simp at hb⟩
  · exact ⟨T, h2.1, h1, h2.2.2.2.1⟩
theorem shr_eq (h : RdT N A B X Y Z RK) (hA : ∀ i, i < N → A i 2 = nI (szO A i) ∧ szO A i ≤ 8) (hM : SzM N Z) {a b : Nat} (ha : a < N) (hb : b < N) : shrC A B a (leftM X Y Z RK N a s) b (leftM X Y Z RK N b s) = meetM X Y Z RK N a b s := by
  obtain ⟨z1, z2, z3⟩ := hM a ha
  obtain ⟨y1, y2, y3⟩ := hM b hb
  obtain ⟨S, s1, s2, s3⟩ := left_N (X := X) (Y := Y) (RK := RK) (N := N) (s := s) z1 z2 z3
  obtain ⟨T, t1, t2, t3⟩ := left_N (X := X) (Y := Y) (RK := RK) (N := N) (s := s) y1 y2 y3
  have ea := RdT_sz h ha
  have eb := RdT_sz h hb
  unfold shrC meetM mtB
  rw [s2, t2, Bool.eq_iff_iff, anyB_if0, anyB_if0]
  constructor
  · rintro ⟨p, hp, hx⟩
    obtain ⟨h1, h2⟩ := (Bool.and_eq_true _ _).mp hx
    unfold hpA at h2
    obtain ⟨q, hq, hy⟩ := anyB_if0.mp h2
    obtain ⟨h3, h4⟩ := (Bool.and_eq_true _ _).mp hy
    refine ⟨p, by omega, anyB_if0.mpr ⟨q, by omega, ?_⟩⟩
    unfold mtP
    rw [pl_eq h ha hb hp hq] at h4
    obtain ⟨h5, h6⟩ := (Bool.and_eq_true _ _).mp h4
    rw [h1, h3, Bool.true_and, Bool.true_and, Bool.and_eq_true, decide_eq_true_iff, decide_eq_true_iff]
    exact ⟨(of_decide_eq_true h5).symm, (of_decide_eq_true h6).symm⟩
  · rintro ⟨p, hp, hx⟩
    obtain ⟨q, hq, hy⟩ := anyB_if0.mp hx
    unfold mtP at hy
    obtain ⟨h1, h2⟩ := (Bool.and_eq_true _ _).mp hy
    obtain ⟨h3, h4⟩ := (Bool.and_eq_true _ _).mp h2
    obtain ⟨h5, h6⟩ := (Bool.and_eq_true _ _).mp h4
    have hpS : p < szO A a := by
      rw [ea]
      exact s3 p hp (by rw [← hs_bit S s1 p hp]; exact h1)
    have hqT : q < szO A b := by
      rw [eb]
      exact t3 q hq (by rw [← hs_bit T t1 q hq]; exact h3)
    refine ⟨p, hpS, ?_⟩
    rw [h1, Bool.true_and]
    unfold hpA
    refine anyB_if0.mpr ⟨q, hqT, ?_⟩
    rw [h3, Bool.true_and, pl_eq h ha hb hpS hqT, Bool.and_eq_true, decide_eq_true_iff, decide_eq_true_iff]
    exact ⟨(of_decide_eq_true h5).symm, (of_decide_eq_true h6).symm⟩
theorem shr_of {a b p q : Nat} (hb : b < N) (hab : b ≠ a) (hs' : ¬ RK b < s) (hq : q < szN Z b) (e1 : X (8 * b + q) = X (8 * a + p)) (e2 : Y (8 * b + q) = Y (8 * a + p)) : shrM X Y Z RK N a (8 * a + p) s = true := by
  unfold shrM
  refine anyB_if0.mpr ⟨b, hb, anyB_if0.mpr ⟨q, hq, ?_⟩⟩
  unfold shrM1
  simp [hab, hs', e1, e2]
theorem all_eq (h : RdT N A B X Y Z RK) (hA : ∀ i, i < N → A i 2 = nI (szO A i) ∧ szO A i ≤ 8) (hM : SzM N Z) {a b : Nat} (ha : a < N) (hb : b < N) (hab : a ≠ b) : ((!decide (A a 3 < s) && !decide (A b 3 < s)) && shrC A B a (allP A a) b (allP A b)) = meetM X Y Z RK N a b s := by
  rw [← shr_eq h hA hM ha hb]
  obtain ⟨z1, z2, z3⟩ := hM a ha
  obtain ⟨y1, y2, y3⟩ := hM b hb
  have ea := RdT_sz h ha
  have eb := RdT_sz h hb
  rw [(h a ha).2.1, (h b hb).2.1]
  unfold allP
  rw [(hA a ha).1, (hA b hb).1]
  obtain ⟨a1, a2, a3, a4⟩ := all_bit (szO A a) (hA a ha).2
  obtain ⟨b1, b2, b3, b4⟩ := all_bit (szO A b) (hA b hb).2
  rw [a1, b1]
  have hz8 := (hA a ha).2
  have hy8 := (hA b hb).2
  have zero : ∀ (p : Nat), p < 8 → hs (nI 0) (nI p) = false := fun p hp => by
    rw [hs_bit 0 (by decide) p hp]
    simp
  rcases left_P (X := X) (Y := Y) (RK := RK) (N := N) (s := s) z1 z2 z3 with ⟨e, e'⟩ | ⟨e, S, s1, s2, s3, s4, s5, s6⟩
  · rw [e', decide_eq_true e]
    rw [Bool.eq_iff_iff]
    simp only [Bool.not_true, Bool.false_and, Bool.false_eq_true, false_iff]
    unfold shrC
    rw [anyB_if0]
    rintro ⟨p, hp, hx⟩
    rw [zero p (by omega)] at hx
    cases hx
  · rcases left_P (X := X) (Y := Y) (RK := RK) (N := N) (s := s) y1 y2 y3 with ⟨g, g'⟩ | ⟨g, T, t1, t2, t3, t4, t5, t6⟩
    · rw [g', decide_eq_true g]
      rw [Bool.eq_iff_iff]
      simp only [Bool.not_true, Bool.and_false, Bool.false_and, Bool.false_eq_true, false_iff]
      unfold shrC
      rw [anyB_if0]
      rintro ⟨p, hp, hx⟩
      have h2 := ((Bool.and_eq_true _ _).mp hx).2
      unfold hpA at h2
      obtain ⟨q, hq, hy⟩ := anyB_if0.mp h2
      rw [zero q (by omega)] at hy
      cases hy
    · rw [s1, t1, decide_eq_false e, decide_eq_false g, Bool.eq_iff_iff]
      simp only [Bool.not_false, Bool.true_and]
      unfold shrC hpA
      rw [anyB_if0, anyB_if0]
      constructor
      · rintro ⟨p, hp, hx⟩
        obtain ⟨h1, h2⟩ := (Bool.and_eq_true _ _).mp hx
        obtain ⟨q, hq, hy⟩ := anyB_if0.mp h2
        have h4 := ((Bool.and_eq_true _ _).mp hy).2
        have h4' := h4
        rw [pl_eq h ha hb hp hq] at h4'
        obtain ⟨h5, h6⟩ := (Bool.and_eq_true _ _).mp h4'
        have m1 := shr_of (X := X) (Y := Y) (Z := Z) (RK := RK) (N := N) (s := s) hb (Ne.symm hab) g (by omega) (of_decide_eq_true h5) (of_decide_eq_true h6)
        have m2 := shr_of (X := X) (Y := Y) (Z := Z) (RK := RK) (N := N) (s := s) ha hab e (by omega) (of_decide_eq_true h5).symm (of_decide_eq_true h6).symm
        refine ⟨p, hp, ?_⟩
        rw [Bool.and_eq_true]
        constructor
        · rw [hs_bit S s2 p (by omega)]
          cases z : S.testBit p
          · rw [s6 p (by omega) z] at m1
            cases m1
          · rfl
        · refine anyB_if0.mpr ⟨q, hq, ?_⟩
          rw [h4, Bool.and_true, hs_bit T t2 q (by omega)]
          cases z : T.testBit q
          · rw [t6 q (by omega) z] at m2
            cases m2
          · rfl
      · rintro ⟨p, hp, hx⟩
        obtain ⟨h1, h2⟩ := (Bool.and_eq_true _ _).mp hx
        obtain ⟨q, hq, hy⟩ := anyB_if0.mp h2
        have h4 := ((Bool.and_eq_true _ _).mp hy).2
        refine ⟨p, hp, ?_⟩
        rw [hs_bit _ a2 p (by omega), a4 p (by omega), decide_eq_true hp, Bool.true_and]
        refine anyB_if0.mpr ⟨q, hq, ?_⟩
        rw [hs_bit _ b2 q (by omega), b4 q (by omega), decide_eq_true hq, Bool.true_and, h4]
theorem mtA_eq (h : RdT N A B X Y Z RK) (hA : ∀ i, i < N → A i 2 = nI (szO A i) ∧ szO A i ≤ 8) (hM : SzM N Z) : mtA A B N s = mnow X Y Z RK N s := by
  unfold mtA mnow
  exact prF_c (Nat.zero_add N) (fun a b h1 h2 => all_eq h hA hM (by omega) h2 (by omega))
theorem mtL_eq (h : RdT N A B X Y Z RK) (hA : ∀ i, i < N → A i 2 = nI (szO A i) ∧ szO A i ≤ 8) (hM : SzM N Z) (hC : ∀ r, r < N → rdA 4 (C r) (nI 0) s = leftM X Y Z RK N r s) : mtL A B C N s = mnow X Y Z RK N s := by
  unfold mtL mnow
  refine prF_c (Nat.zero_add N) (fun a b h1 h2 => ?_)
  rw [hC a (by omega), hC b h2]
  exact shr_eq h hA hM (by omega) h2
end
