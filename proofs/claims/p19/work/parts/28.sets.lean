/-! sets of points as numbers; what is left of a road -/
abbrev Fn1 : Type := Nat → Int32
set_option maxRecDepth 100000 in
theorem hs_bit : ∀ T, T < 256 → ∀ p, p < 8 → hs (nI T) (nI p) = T.testBit p := by decide +kernel
set_option maxRecDepth 100000 in
theorem off_bit : ∀ T, T < 256 → ∀ p, p < 8 → T.testBit p = true → offB (nI T) (nI p) = nI (T ^^^ 2 ^ p) ∧ T ^^^ 2 ^ p < 256 := by decide +kernel
set_option maxRecDepth 100000 in
theorem all_bit : ∀ z, z ≤ 8 → nI 1 <<< (nI z &&& 31) - nI 1 = nI (2 ^ z - 1) ∧ 2 ^ z - 1 < 256 ∧ ∀ p, p < 8 → (2 ^ z - 1).testBit p = decide (p < z) := by decide +kernel
theorem off_ne {T p q : Nat} (h : q ≠ p) : (T ^^^ 2 ^ p).testBit q = T.testBit q := by
  rw [Nat.testBit_xor, Nat.testBit_two_pow]
  simp [Ne.symm h]
theorem off_eq {T p : Nat} (h : T.testBit p = true) : (T ^^^ 2 ^ p).testBit p = false := by
  rw [Nat.testBit_xor, Nat.testBit_two_pow, h]
  simp
/-- the points of a set, counted one by one -/
def smF (S : Int32) : Nat → Nat → Int32 → Int32
  | 0, _, a => a
  | d + 1, p, a => smF S d (p + 1) (a + ((S >>> (nI p &&& 31)) &&& nI 1))
theorem smF_0 {S : Int32} {p : Nat} {a : Int32} : smF S 0 p a = a := rfl
theorem smF_s {S : Int32} {d p : Nat} {a : Int32} : smF S (d + 1) p a = smF S d (p + 1) (a + ((S >>> (nI p &&& 31)) &&& nI 1)) := rfl
set_option maxRecDepth 100000 in
theorem sm_bc : ∀ T, T < 256 → smF (nI T) 8 0 (nI 0) = bcI (nI T) := by decide +kernel
set_option maxRecDepth 100000 in
theorem bit_0 : ∀ T, T < 256 → T.testBit 0 = true → nI T &&& nI 1 = nI 1 := by decide +kernel
set_option maxRecDepth 100000 in
theorem bit_z : ∀ T, T < 256 → ∀ z, z ≤ 8 → 1 ≤ z → T.testBit (z - 1) = true → (nI T >>> ((nI z - nI 1) &&& 31)) &&& nI 1 = nI 1 := by decide +kernel
set_option maxRecDepth 100000 in
theorem bit_out : ∀ T, T < 256 → ∀ z, z ≤ 8 → (∀ p, p < 8 → T.testBit p = true → p < z) → nI T &&& ((nI 1 <<< (nI z &&& 31) - nI 1) ^^^ (-1)) = 0 := by decide +kernel
theorem anyB_iff {f : Nat → Bool} : ∀ {d j : Nat}, anyB f d j = true ↔ ∃ q, j ≤ q ∧ q < j + d ∧ f q = true
  | 0, j => by
    rw [anyB_0]
    exact ⟨fun h => absurd h (by decide), fun ⟨q, h1, h2, _⟩ => by omega⟩
  | d + 1, j => by
    rw [anyB_s, Bool.or_eq_true, anyB_iff]
    constructor
    · rintro (h | ⟨q, h1, h2, h3⟩)
      · exact ⟨j, Nat.le_refl j, by omega, h⟩
      · exact ⟨q, by omega, by omega, h3⟩
    · rintro ⟨q, h1, h2, h3⟩
      by_cases e : q = j
      · exact Or.inl (e ▸ h3)
      · exact Or.inr ⟨q, by omega, by omega, h3⟩
theorem anyB_if0 {f : Nat → Bool} {d : Nat} : anyB f d 0 = true ↔ ∃ q, q < d ∧ f q = true := by
  rw [anyB_iff]
  exact ⟨fun ⟨q, _, h2, h3⟩ => ⟨q, by omega, h3⟩, fun ⟨q, h2, h3⟩ => ⟨q, Nat.zero_le q, by omega, h3⟩⟩
theorem anyB_c {f g : Nat → Bool} : ∀ {d j : Nat}, (∀ q, j ≤ q → q < j + d → f q = g q) → anyB f d j = anyB g d j
  | 0, j, h => rfl
  | d + 1, j, h => by
    rw [anyB_s, anyB_s, h j (Nat.le_refl j) (by omega), anyB_c (fun q h1 h2 => h q (by omega) (by omega))]
theorem anyB_c0 {f g : Nat → Bool} {d : Nat} (h : ∀ q, q < d → f q = g q) : anyB f d 0 = anyB g d 0 := anyB_c (fun q _ h2 => h q (by omega))
theorem cntI_c {f g : Nat → Bool} : ∀ {d j : Nat} {a : Int32}, (∀ q, j ≤ q → q < j + d → f q = g q) → cntI f d j a = cntI g d j a
  | 0, j, a, h => rfl
  | d + 1, j, a, h => by
    rw [cntI_s, cntI_s, h j (Nat.le_refl j) (by omega), cntI_c (fun q h1 h2 => h q (by omega) (by omega))]
theorem prF_c {f g : Nat → Nat → Bool} {N : Nat} : ∀ {d a : Nat} {acc : Int32}, a + d = N → (∀ a b, a < b → b < N → f a b = g a b) → prF f N d a acc = prF g N d a acc
  | 0, a, acc, ha, h => rfl
  | d + 1, a, acc, ha, h => by
    rw [prF_s, prF_s, cntI_c (fun q h1 h2 => h a q (by omega) (by omega)), prF_c (by omega) h]
theorem nI_m1 {q : Nat} (h : q < 2 ^ 31) : ¬ nI q = -1 := fun z => by
  have := nI_pos' h
  rw [z] at this
  exact absurd this (by decide)
theorem gF_met {bit met : Nat → Bool} {tri : Nat → Int32} : ∀ {d p : Nat} {a g : Int32}, gF bit met tri d p a g = g ∨ ∃ q, p ≤ q ∧ q < p + d ∧ bit q = true ∧ met q = false ∧ gF bit met tri d p a g = nI q
  | 0, p, a, g => Or.inl rfl
  | d + 1, p, a, g => by
    rw [gF_s]
    split
    · next h =>
      obtain ⟨hb, h'⟩ := (Bool.and_eq_true _ _).mp h
      have hm := ((Bool.and_eq_true _ _).mp h').2
      rcases gF_met (bit := bit) (met := met) (tri := tri) (d := d) (p := p + 1) (a := tri p) (g := nI p) with q | ⟨q, h1, h2, h3, h4, h5⟩
      · exact Or.inr ⟨p, Nat.le_refl p, by omega, hb, by simpa using hm, q⟩
      · exact Or.inr ⟨q, by omega, by omega, h3, h4, h5⟩
    · rcases gF_met (bit := bit) (met := met) (tri := tri) (d := d) (p := p + 1) (a := a) (g := g) with q | ⟨q, h1, h2, h3, h4, h5⟩
      · exact Or.inl q
      · exact Or.inr ⟨q, by omega, by omega, h3, h4, h5⟩
theorem gF_none {bit met : Nat → Bool} {tri : Nat → Int32} {a : Int32} : ∀ {d p : Nat} {g : Int32}, (∀ q, p ≤ q → q < p + d → a ≤ tri q) → gF bit met tri d p a g = g
  | 0, p, g, h => rfl
  | d + 1, p, g, h => by
    rw [gF_s, decide_eq_true (h p (Nat.le_refl p) (by omega))]
    simp only [Bool.not_true, Bool.false_and, Bool.and_false, Bool.false_eq_true, if_false]
    exact gF_none (fun q h1 h2 => h q (by omega) (by omega))
theorem xO_n {x y : Nat} (hx : x < 40) (hy : y < 40) : xO (nI (y * 40 + x)) = nI x := by
  unfold xO
  rw [pk_rem (by omega) (by decide) (by decide)]
  congr 1
  omega
theorem yO_n {x y : Nat} (hx : x < 40) (hy : y < 40) : yO (nI (y * 40 + x)) = nI y := by
  unfold yO
  rw [pk_div (by omega) (by decide) (by decide)]
  congr 1
  omega
/-- a place of the map -/
def Pl (v : Int32) : Prop := ∃ x y, x < 40 ∧ y < 40 ∧ v = nI (y * 40 + x)
theorem Pl_p {x y : Nat} (hx : x < 40) (hy : y < 40) : Pl (plV (nI x) (nI y)) := ⟨x, y, hx, hy, by unfold plV; rw [pk_mul, nI_add]⟩
theorem df_i {a b : Nat} (ha : a < 40) (hb : b < 40) : (nI a - nI b).toInt.natAbs ≤ 39 := by
  rw [pk_sub_toInt (by omega) (by omega)]
  omega
theorem mul_i {a b : Int32} (ha : a.toInt.natAbs ≤ 39) (hb : b.toInt.natAbs ≤ 39) : (a * b).toInt.natAbs ≤ 1521 := by
  have h : (a.toInt * b.toInt).natAbs ≤ 1521 := by
    rw [Int.natAbs_mul]
    exact Nat.mul_le_mul ha hb
  rw [Int32.toInt_mul, Int.bmod_eq_of_le (by omega) (by omega)]
  exact h
theorem sub_i {a b : Int32} (ha : a.toInt.natAbs ≤ 1521) (hb : b.toInt.natAbs ≤ 1521) : (a - b).toInt.natAbs ≤ 3042 := by
  rw [Int32.toInt_sub, Int.bmod_eq_of_le (by omega) (by omega)]
  omega
theorem abs_i {a : Int32} (ha : a.toInt.natAbs ≤ 3042) : 0 ≤ absI a := by
  unfold absI
  split
  · next h => exact h
  · next h =>
    rw [Int32.le_iff_toInt_le] at h ⊢
    have e : (0 : Int32).toInt = 0 := rfl
    rw [e] at h ⊢
    rw [Int32.toInt_sub, e, Int.bmod_eq_of_le (by omega) (by omega)]
    omega
/-- a triangle isn't negative -/
theorem tri_nn {f : Fn1} {p a b : Nat} (hp : Pl (f p)) (ha : Pl (f a)) (hb : Pl (f b)) : 0 ≤ triP f p a b := by
  obtain ⟨x1, y1, a1, a2, a3⟩ := hp
  obtain ⟨x2, y2, b1, b2, b3⟩ := ha
  obtain ⟨x3, y3, c1, c2, c3⟩ := hb
  unfold triP
  rw [a3, b3, c3, xO_n a1 a2, yO_n a1 a2, xO_n b1 b2, yO_n b1 b2, xO_n c1 c2, yO_n c1 c2]
  exact abs_i (sub_i (mul_i (df_i c1 a1) (df_i b2 a2)) (mul_i (df_i c2 a2) (df_i b1 a1)))
section
variable {N : Nat} {A B C : Fn2} {r : Nat} {s : Int32}
theorem hpA_eq {o : Nat} {pl : Int32} (hz : A o 2 = nI (szO A o)) (h8 : szO A o ≤ 8) : hpA A B o pl (allP A o) = anyB (fun q => decide (B o q = pl)) (szO A o) 0 := by
  obtain ⟨a1, a2, a4⟩ := all_bit (szO A o) h8
  unfold hpA
  refine anyB_c0 (fun q hq => ?_)
  unfold allP
  rw [hz, a1, hs_bit _ a2 q (by omega), a4 q (by omega), decide_eq_true hq, Bool.true_and]
/-- what is left of a road: its ends, and each point where it meets another one -/
def LfC (A B : Fn2) (N r : Nat) (s : Int32) (T : Nat) : Prop := T < 256 ∧ T.testBit 0 = true ∧ T.testBit (szO A r - 1) = true ∧ (∀ p, p < 8 → T.testBit p = true → p < szO A r) ∧ (∀ p, p < szO A r → T.testBit p = false → metC A B N r (B r p) s = false)
theorem lF_C (hz2 : 2 ≤ szO A r) (hz8 : szO A r ≤ 8) : ∀ (f T : Nat), LfC A B N r s T → ∃ T', lF (fun S => goesC A B N r S s) f (nI T) = nI T' ∧ LfC A B N r s T'
  | 0, T, h => ⟨T, rfl, h⟩
  | f + 1, T, h => by
    rw [lF_s]
    split
    · exact ⟨T, rfl, h⟩
    · next q =>
      rcases gF_met (bit := fun p => hs (nI T) (nI p)) (met := fun p => metC A B N r (B r p) s) (tri := triS (B r) (nI T) (szO A r)) (d := szO A r - 1 - 1) (p := 1) (a := nI 20 * s) (g := -1) with z | ⟨p, h1, h2, h3, h4, h5⟩
      · exact absurd z q
      · have h5' : goesC A B N r (nI T) s = nI p := h5
        obtain ⟨a1, a2, a3, a4, a5⟩ := h
        have h3' : hs (nI T) (nI p) = true := h3
        rw [hs_bit T a1 p (by omega)] at h3'
        obtain ⟨o1, o3⟩ := off_bit T a1 p (by omega) h3'
        rw [h5', o1]
        refine lF_C hz2 hz8 f (T ^^^ 2 ^ p) ⟨o3, by rw [off_ne (by omega)]; exact a2, by rw [off_ne (by omega)]; exact a3, fun k hk hb => ?_, fun k hk hb => ?_⟩
        · by_cases e : k = p
          · rw [e, off_eq h3'] at hb; cases hb
          · rw [off_ne e] at hb
            exact a4 k hk hb
        · by_cases e : k = p
          · rw [e]; exact h4
          · rw [off_ne e] at hb
            exact a5 k hk hb
theorem left_C (hZ : A r 2 = nI (szO A r)) (hz2 : 2 ≤ szO A r) (hz8 : szO A r ≤ 8) : (A r 3 < s ∧ leftC A B N r s = nI 0) ∨ (¬ A r 3 < s ∧ ∃ T, leftC A B N r s = nI T ∧ LfC A B N r s T) := by
  unfold leftC
  by_cases e : A r 3 < s
  · rw [if_pos e]
    exact Or.inl ⟨e, rfl⟩
  · rw [if_neg e]
    obtain ⟨a1, a2, a4⟩ := all_bit (szO A r) hz8
    unfold allP
    rw [hZ, a1]
    refine Or.inr ⟨e, lF_C hz2 hz8 8 _ ⟨a2, ?_, ?_, fun p hp hb => ?_, fun p hp hb => ?_⟩⟩
    · rw [a4 0 (by decide)]; exact decide_eq_true (by omega)
    · rw [a4 _ (by omega)]; exact decide_eq_true (by omega)
    · rw [a4 p hp] at hb
      exact of_decide_eq_true hb
    · rw [a4 p (by omega), decide_eq_true hp] at hb
      cases hb
/-- nothing goes on the scale 0 -/
theorem left_0 (hz2 : 2 ≤ szO A r) (hp : ∀ p, p < szO A r → Pl (B r p)) (h0 : ¬ A r 3 < nI 0) : leftC A B N r (nI 0) = allP A r := by
  unfold leftC
  rw [if_neg h0, lF_s, if_pos]
  unfold goesC
  refine gF_none (fun q h1 h2 => ?_)
  have e : nI 20 * nI 0 = 0 := by decide
  rw [e]
  unfold triS
  have pa : ahd (allP A r) (q - 1) < szO A r := Nat.lt_of_le_of_lt ahd_le (by omega)
  have pb : bhd (allP A r) (szO A r - 1 - (q + 1)) (q + 1) < szO A r := Nat.lt_of_le_of_lt bhd_le.2 (by omega)
  exact tri_nn (hp q (by omega)) (hp _ pa) (hp _ pb)
theorem mtc_of {a b p q : Nat} (hA : ∀ i, i < N → A i 2 = nI (szO A i) ∧ szO A i ≤ 8) (hb : b < N) (hab : b ≠ a) (hs' : ¬ A b 3 < s) (hq : q < szO A b) (e : B b q = B a p) : metC A B N a (B a p) s = true := by
  unfold metC
  refine anyB_if0.mpr ⟨b, hb, ?_⟩
  rw [hpA_eq (hA b hb).1 (hA b hb).2, decide_eq_false hab, decide_eq_false hs']
  simp only [Bool.not_false, Bool.true_and]
  exact anyB_if0.mpr ⟨q, hq, decide_eq_true e⟩
/-- two roads meet by what is left just where they meet by all points -/
theorem all_eq (hA : ∀ i, i < N → A i 2 = nI (szO A i) ∧ szO A i ≤ 8) (hB : ∀ i, i < N → 2 ≤ szO A i) {a b : Nat} (ha : a < N) (hb : b < N) (hab : a ≠ b) : shrC A B a (leftC A B N a s) b (leftC A B N b s) = ((!decide (A a 3 < s) && !decide (A b 3 < s)) && shrC A B a (allP A a) b (allP A b)) := by
  have z1 := hA a ha
  have z2 := hA b hb
  have hz8 := z1.2
  have hy8 := z2.2
  unfold allP
  rw [z1.1, z2.1]
  obtain ⟨a1, a2, a4⟩ := all_bit (szO A a) z1.2
  obtain ⟨b1, b2, b4⟩ := all_bit (szO A b) z2.2
  rw [a1, b1]
  have zero : ∀ (p : Nat), p < 8 → hs (nI 0) (nI p) = false := fun p hp => by
    rw [hs_bit 0 (by decide) p hp]
    simp
  rcases left_C (B := B) (N := N) (s := s) z1.1 (hB a ha) z1.2 with ⟨e, e'⟩ | ⟨e, S, s1, s2, s3, s4, s5, s6⟩
  · rw [e', decide_eq_true e]
    rw [Bool.eq_iff_iff]
    simp only [Bool.not_true, Bool.false_and, Bool.false_eq_true, iff_false]
    unfold shrC
    rw [anyB_if0]
    rintro ⟨p, hp, hx⟩
    rw [zero p (by omega)] at hx
    cases hx
  · rcases left_C (B := B) (N := N) (s := s) z2.1 (hB b hb) z2.2 with ⟨g, g'⟩ | ⟨g, T, t1, t2, t3, t4, t5, t6⟩
    · rw [g', decide_eq_true g]
      rw [Bool.eq_iff_iff]
      simp only [Bool.not_true, Bool.and_false, Bool.false_and, Bool.false_eq_true, iff_false]
      unfold shrC
      rw [anyB_if0]
      rintro ⟨p, hp, hx⟩
      have h2 := ((Bool.and_eq_true _ _).mp hx).2
      unfold hpA at h2
      obtain ⟨q, hq, hy⟩ := anyB_if0.mp h2
      rw [zero q (by omega)] at hy
      cases hy
    · rw [s1, t1, decide_eq_false e, decide_eq_false g, Bool.eq_iff_iff]
      simp only [Bool.not_false, Bool.true_and]
      unfold shrC hpA
      rw [anyB_if0, anyB_if0]
      constructor
      · rintro ⟨p, hp, hx⟩
        obtain ⟨h1, h2⟩ := (Bool.and_eq_true _ _).mp hx
        obtain ⟨q, hq, hy⟩ := anyB_if0.mp h2
        have h4 := ((Bool.and_eq_true _ _).mp hy).2
        refine ⟨p, hp, ?_⟩
        rw [hs_bit _ a2 p (by omega), a4 p (by omega), decide_eq_true hp, Bool.true_and]
        refine anyB_if0.mpr ⟨q, hq, ?_⟩
        rw [hs_bit _ b2 q (by omega), b4 q (by omega), decide_eq_true hq, Bool.true_and, h4]
      · rintro ⟨p, hp, hx⟩
        obtain ⟨h1, h2⟩ := (Bool.and_eq_true _ _).mp hx
        obtain ⟨q, hq, hy⟩ := anyB_if0.mp h2
        have h4 := ((Bool.and_eq_true _ _).mp hy).2
        have h4' := of_decide_eq_true h4
        have m1 := mtc_of (B := B) (s := s) hA hb (Ne.symm hab) g hq h4'
        have m2 := mtc_of (B := B) (s := s) hA ha hab e hp h4'.symm
        refine ⟨p, hp, ?_⟩
        rw [Bool.and_eq_true]
        constructor
        · rw [hs_bit S s2 p (by omega)]
          cases z : S.testBit p
          · rw [s6 p (by omega) z] at m1
            cases m1
          · rfl
        · refine anyB_if0.mpr ⟨q, hq, ?_⟩
          rw [h4, Bool.and_true, hs_bit T t2 q (by omega)]
          cases z : T.testBit q
          · rw [t6 q (by omega) z] at m2
            cases m2
          · rfl
theorem mt_eq (hA : ∀ i, i < N → A i 2 = nI (szO A i) ∧ szO A i ≤ 8) (hB : ∀ i, i < N → 2 ≤ szO A i) (hC : ∀ r, r < N → rdA 4 (C r) (nI 0) s = leftC A B N r s) : mtL A B C N s = mtA A B N s := by
  unfold mtL mtA
  refine prF_c (Nat.zero_add N) (fun a b h1 h2 => ?_)
  rw [hC a (by omega), hC b h2]
  exact all_eq hA hB (by omega) h2 (by omega)
end
