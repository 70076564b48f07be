/-! class and model: the same lines, the same errata -/
theorem gtD_no : ∀ {l : List Int32} {i : Nat}, l.length ≤ i → l.getD i (-1) = -1
  | [], i, _ => rfl
  | v :: l, 0, h => by simp at h
  | v :: l, i + 1, h => by
    rw [List.length_cons] at h
    exact gtD_no (l := l) (i := i) (by omega)
def pts (bit : Nat → Bool) (B : Fn1) : Nat → Nat → List Int32
  | 0, _ => []
  | d + 1, p => if bit p = true then B p :: pts bit B d (p + 1) else pts bit B d (p + 1)
theorem pts_s {bit : Nat → Bool} {B : Fn1} {d p : Nat} : pts bit B (d + 1) p = if bit p = true then B p :: pts bit B d (p + 1) else pts bit B d (p + 1) := rfl
theorem pts_len {bit : Nat → Bool} {B : Fn1} : ∀ {d p : Nat}, (pts bit B d p).length ≤ d
  | 0, p => Nat.le_refl 0
  | d + 1, p => by
    have := pts_len (bit := bit) (B := B) (d := d) (p := p + 1)
    rw [pts_s]
    split
    · rw [List.length_cons]; omega
    · omega
theorem pts_c {bit bit' : Nat → Bool} {B B' : Fn1} : ∀ {d p : Nat}, (∀ q, p ≤ q → q < p + d → bit q = bit' q ∧ (bit q = true → B q = B' q)) → pts bit B d p = pts bit' B' d p
  | 0, p, h => rfl
  | d + 1, p, h => by
    obtain ⟨h1, h2⟩ := h p (Nat.le_refl p) (by omega)
    rw [pts_s, pts_s, ← h1, pts_c (fun q z1 z2 => h q (by omega) (by omega))]
    cases e : bit p
    · rfl
    · rw [h2 e]
theorem pts_no {bit : Nat → Bool} {B : Fn1} : ∀ {d p : Nat}, (∀ q, p ≤ q → q < p + d → bit q = false) → pts bit B d p = []
  | 0, p, h => rfl
  | d + 1, p, h => by
    rw [pts_s, h p (Nat.le_refl p) (by omega), if_neg Bool.false_ne_true, pts_no (fun q z1 z2 => h q (by omega) (by omega))]
theorem pts_more {bit : Nat → Bool} {B : Fn1} {e : Nat} : ∀ {d p : Nat}, (∀ q, p + d ≤ q → q < p + d + e → bit q = false) → pts bit B (d + e) p = pts bit B d p
  | 0, p, h => by rw [Nat.zero_add]; exact pts_no (fun q h1 h2 => h q (by omega) (by omega))
  | d + 1, p, h => by rw [show d + 1 + e = (d + e) + 1 by omega, pts_s, pts_s, pts_more (fun q z1 z2 => h q (by omega) (by omega))]
theorem pts_mem {bit : Nat → Bool} {B : Fn1} {P : Int32 → Prop} : ∀ {d p : Nat}, (∀ q, p ≤ q → q < p + d → bit q = true → P (B q)) → ∀ i, i < (pts bit B d p).length → P ((pts bit B d p).getD i (-1))
  | 0, p, h, i, hi => by simp [pts] at hi
  | d + 1, p, h, i, hi => by
    rw [pts_s] at hi ⊢
    cases e : bit p
    · rw [e, if_neg Bool.false_ne_true] at hi
      rw [if_neg Bool.false_ne_true]
      exact pts_mem (fun q z1 z2 => h q (by omega) (by omega)) i hi
    · rw [e, if_pos rfl] at hi
      rw [if_pos rfl]
      cases i with
      | zero => exact h p (Nat.le_refl p) (by omega) e
      | succ i =>
        rw [List.length_cons] at hi
        exact pts_mem (fun q z1 z2 => h q (by omega) (by omega)) i (by omega)
theorem dF_get {bit : Nat → Bool} {B : Fn1} {o j : Nat} : ∀ {d p k : Nat} {f : Fn1}, dF bit B o d p k f j = if o + k ≤ j ∧ j < o + k + (pts bit B d p).length then (pts bit B d p).getD (j - (o + k)) (-1) else f j
  | 0, p, k, f => by
    rw [dF_0, if_neg]
    simp [pts]
  | d + 1, p, k, f => by
    rw [dF_s, pts_s]
    cases e : bit p
    · rw [if_neg Bool.false_ne_true, if_neg Bool.false_ne_true, dF_get]
    · rw [if_pos rfl, if_pos rfl, dF_get, List.length_cons]
      by_cases h1 : j = o + k
      · subst h1
        rw [if_neg (by omega), upd_s, if_pos (by omega), Nat.sub_self]
        rfl
      · rw [upd_n h1]
        by_cases h2 : o + (k + 1) ≤ j ∧ j < o + (k + 1) + (pts bit B d (p + 1)).length
        · rw [if_pos h2, if_pos (by omega), show j - (o + k) = (j - (o + (k + 1))) + 1 by omega]
          rfl
        · rw [if_neg h2, if_neg (by omega)]
theorem dC_len {bit : Nat → Bool} {B : Fn1} : ∀ {d p k : Nat}, dC bit d p k = k + (pts bit B d p).length
  | 0, p, k => rfl
  | d + 1, p, k => by
    rw [dC_s, pts_s, dC_len (B := B)]
    cases bit p
    · rfl
    · rw [if_pos rfl, if_pos rfl, List.length_cons]
      omega
theorem cnt_len {bit : Nat → Bool} {B : Fn1} : ∀ {d p k : Nat}, cntI bit d p (nI k) = nI (k + (pts bit B d p).length)
  | 0, p, k => rfl
  | d + 1, p, k => by
    rw [cntI_s, pts_s]
    cases bit p
    · rw [if_neg Bool.false_ne_true, if_neg Bool.false_ne_true, cnt_len (B := B)]
    · rw [if_pos rfl, if_pos rfl, nI_add, cnt_len (B := B), List.length_cons]
      congr 1
      omega
theorem lkF_iff {bit : Nat → Bool} {old code : Fn1} : ∀ {d p k : Nat}, lkF bit old code d p k = true ↔ ∀ i, i < (pts bit code d p).length → old (k + i) = (pts bit code d p).getD i (-1)
  | 0, p, k => by
    rw [lkF_0]
    exact ⟨fun _ i hi => by simp [pts] at hi, fun _ => rfl⟩
  | d + 1, p, k => by
    rw [lkF_s, pts_s]
    cases bit p
    · rw [if_neg Bool.false_ne_true, if_neg Bool.false_ne_true, lkF_iff]
    · rw [if_pos rfl, if_pos rfl, Bool.and_eq_true, decide_eq_true_iff, lkF_iff]
      constructor
      · rintro ⟨h1, h2⟩ i hi
        cases i with
        | zero => exact h1
        | succ i =>
          rw [List.length_cons] at hi
          have := h2 i (by omega)
          rw [show k + (i + 1) = k + 1 + i by omega, this]
          rfl
      · intro h
        refine ⟨h 0 (by rw [List.length_cons]; omega), fun i hi => ?_⟩
        have := h (i + 1) (by rw [List.length_cons]; omega)
        rw [show k + 1 + i = k + (i + 1) by omega, this]
        rfl
theorem cntI_no {f : Nat → Bool} : ∀ {d j : Nat} {a : Int32}, (∀ q, j ≤ q → q < j + d → f q = false) → cntI f d j a = a
  | 0, j, a, h => rfl
  | d + 1, j, a, h => by
    rw [cntI_s, h j (Nat.le_refl j) (by omega), if_neg Bool.false_ne_true, cntI_no (fun q h1 h2 => h q (by omega) (by omega))]
theorem cntI_more {f : Nat → Bool} {e : Nat} : ∀ {d j : Nat} {a : Int32}, (∀ q, j + d ≤ q → q < j + d + e → f q = false) → cntI f (d + e) j a = cntI f d j a
  | 0, j, a, h => by rw [Nat.zero_add, cntI_0]; exact cntI_no (fun q h1 h2 => h q (by omega) (by omega))
  | d + 1, j, a, h => by rw [show d + 1 + e = (d + e) + 1 by omega, cntI_s, cntI_s, cntI_more (fun q z1 z2 => h q (by omega) (by omega))]
/-- the points of road r that sheet s has -/
def PM (n : Nn) (c : Cc) (s r : Nat) : List Int32 := pts (fun p => hs (dwM n c s r) (nI p)) (cdM c r) 8 0
/-- what is tied of the roads and of a sheet's rows -/
def RdC (n : Nn) (c : Cc) : Prop := RdT n.1 (c 9) (c 10) (c 24 0) (c 25 0) (c 26 0) (c 27 0)
def ShC (c : Cc) (s : Nat) : Prop := ∀ j, j < 6 → c 13 s j = UM c s j
section
variable {n : Nn} {c : Cc} {s r : Nat}
theorem dw_N (hI : MI n c) (hr : r < n.1) : ∃ T, T < 256 ∧ dwM n c s r = nI T ∧ ∀ p, p < 8 → T.testBit p = true → p < szN (c 26 0) r := by
  obtain ⟨z1, z2, z3⟩ := hI.2.2.2.2.2.2.1 r hr
  unfold dwM lfM
  split
  · obtain ⟨T, a1, a2, a3⟩ := left_N (X := c 24 0) (Y := c 25 0) (RK := c 27 0) (N := n.1) (s := c 34 0 s) z1 z2 z3
    exact ⟨T, a1, a2, a3⟩
  · exact ⟨0, by decide, rfl, fun p _ hb => by simp at hb⟩
theorem PM_cd (hI : MI n c) (hR : RdC n c) (hr : r < n.1) : ∀ i, i < (PM n c s r).length → (PM n c s r).getD i (-1) ≠ -1 := by
  obtain ⟨T, a1, a2, a3⟩ := dw_N (s := s) hI hr
  unfold PM
  refine pts_mem (P := fun v => v ≠ -1) (fun q _ hq hb => ?_)
  have hb : hs (dwM n c s r) (nI q) = true := hb
  rw [a2, hs_bit T a1 q (by omega)] at hb
  have hqz := a3 q (by omega) hb
  rw [← RdT_sz hR hr] at hqz
  obtain ⟨x, y, b1, b2, b3, b4, b5⟩ := (hR r hr).2.2 q hqz
  unfold cdM
  rw [b3, b4, pk_mul, nI_add]
  exact nI_m1 (by omega)
theorem PM_len : (PM n c s r).length ≤ 8 := pts_len
/-- what the class draws of road r -/
theorem drR_get (hI : MI n c) (hR : RdC n c) (hS : ShC c s) (hL : ∀ r, r < n.1 → shS c s r = lfM c n.1 r (c 34 0 s)) (hr : r < n.1) {f : Fn1} (hf : ∀ i, i < 8 → f (r * 8 + i) = -1) : (∀ i, i < 8 → drR (c 9) (c 10) (c 13 s) (shS c s) r f (r * 8 + i) = (PM n c s r).getD i (-1)) ∧ (∀ q i, q ≠ r → i < 8 → drR (c 9) (c 10) (c 13 s) (shS c s) r f (q * 8 + i) = f (q * 8 + i)) := by
  obtain ⟨z1, z2, z3⟩ := hI.2.2.2.2.2.2.1 r hr
  obtain ⟨T, a1, a2, a3⟩ := left_N (X := c 24 0) (Y := c 25 0) (RK := c 27 0) (N := n.1) (s := c 34 0 s) z1 z2 z3
  have ez := RdT_sz hR hr
  have eq1 : lfM c n.1 r (c 34 0 s) = nI T := a2
  have esel : anyB (fun q => hs (shS c s r) (nI q) && onP (c 13 s) (c 10 r q)) (szO (c 9) r) 0 = anyB (fun p => hs (lfM c n.1 r (c 34 0 s)) (nI p) && onR (c 35 0 s) (c 36 0 s) (c 37 0 s) (c 38 0 s) (c 24 0 (8 * r + p)) (c 25 0 (8 * r + p))) 8 0 := by
    rw [hL r hr, eq1, Bool.eq_iff_iff, anyB_if0, anyB_if0]
    have e1 : ∀ q, q < szO (c 9) r → onP (c 13 s) (c 10 r q) = onR (c 35 0 s) (c 36 0 s) (c 37 0 s) (c 38 0 s) (c 24 0 (8 * r + q)) (c 25 0 (8 * r + q)) := fun q hq => by
      obtain ⟨x, y, b1, b2, b3, b4, b5⟩ := (hR r hr).2.2 q hq
      unfold onP
      rw [b3, b4, b5, xO_n b1 b2, yO_n b1 b2, hS 1 (by omega), hS 2 (by omega), hS 3 (by omega), hS 4 (by omega)]
      rfl
    constructor
    · rintro ⟨q, hq, h⟩
      exact ⟨q, by omega, by rw [← e1 q hq]; exact h⟩
    · rintro ⟨q, hq, h⟩
      have hb := ((Bool.and_eq_true _ _).mp h).1
      rw [hs_bit T a1 q hq] at hb
      have hqz := a3 q hq hb
      rw [← ez] at hqz
      exact ⟨q, hqz, by rw [e1 q hqz]; exact h⟩
  unfold drR
  by_cases hc : anyB (fun q => hs (shS c s r) (nI q) && onP (c 13 s) (c 10 r q)) (szO (c 9) r) 0 = true
  · rw [if_pos hc]
    have hc' := hc
    rw [esel] at hc'
    have ed : dwM n c s r = nI T := by unfold dwM; rw [if_pos hc', eq1]
    have ep : pts (fun p => hs (shS c s r) (nI p)) (c 10 r) (szO (c 9) r) 0 = PM n c s r := by
      unfold PM
      rw [ed, hL r hr, eq1]
      have e8 : 8 = szO (c 9) r + (8 - szO (c 9) r) := by omega
      rw [e8, pts_more (d := szO (c 9) r) (e := 8 - szO (c 9) r) (fun q h1 h2 => ?_)]
      · refine pts_c (fun q _ h2 => ⟨rfl, fun hb => ?_⟩)
        obtain ⟨x, y, b1, b2, b3, b4, b5⟩ := (hR r hr).2.2 q (by omega)
        unfold cdM
        rw [b3, b4, b5, pk_mul, nI_add]
        congr 1
        omega
      · show hs (nI T) (nI q) = false
        rw [hs_bit T a1 q (by omega)]
        cases e : T.testBit q
        · rfl
        · have := a3 q (by omega) e
          omega
    constructor
    · intro i hi
      rw [dF_get, ep]
      by_cases h1 : i < (PM n c s r).length
      · rw [if_pos (by omega)]
        congr 1
        omega
      · rw [if_neg (by omega), hf i hi, gtD_no (by omega)]
    · intro q i hq hi
      rw [dF_get, ep, if_neg]
      have := PM_len (n := n) (c := c) (s := s) (r := r)
      omega
  · rw [if_neg hc]
    have hc' := hc
    rw [esel] at hc'
    have ed : dwM n c s r = nI 0 := by unfold dwM; rw [if_neg hc']
    have ep : PM n c s r = [] := by
      unfold PM
      rw [ed]
      refine pts_no (fun q _ h2 => ?_)
      show hs (nI 0) (nI q) = false
      rw [hs_bit 0 (by decide) q (by omega)]
      simp
    rw [ep]
    exact ⟨fun i hi => hf i hi, fun q i _ _ => rfl⟩
theorem lin_get (hI : MI n c) (hR : RdC n c) (hS : ShC c s) (hL : ∀ r, r < n.1 → shS c s r = lfM c n.1 r (c 34 0 s)) : ∀ (d r : Nat) (f : Fn1), r + d = n.1 → (∀ q i, r ≤ q → i < 8 → q < 8 → f (q * 8 + i) = -1) → (∀ q i, i < 8 → r ≤ q → q < n.1 → itF (drR (c 9) (c 10) (c 13 s) (shS c s)) d r f (q * 8 + i) = (PM n c s q).getD i (-1)) ∧ (∀ q i, i < 8 → (q < r ∨ n.1 ≤ q) → itF (drR (c 9) (c 10) (c 13 s) (shS c s)) d r f (q * 8 + i) = f (q * 8 + i))
  | 0, r, f, hj, hf => by
    rw [itF_0]
    exact ⟨fun q i _ h1 h2 => by omega, fun q i _ _ => rfl⟩
  | d + 1, r, f, hj, hf => by
    have hN := hI.2.2.2.1
    have hr : r < n.1 := by omega
    obtain ⟨g1, g2⟩ := drR_get hI hR hS hL hr (f := f) (fun i hi => hf r i (Nat.le_refl r) hi (by omega))
    rw [itF_s]
    obtain ⟨k1, k2⟩ := lin_get hI hR hS hL d (r + 1) (drR (c 9) (c 10) (c 13 s) (shS c s) r f) (by omega) (fun q i h1 h2 h3 => by rw [g2 q i (by omega) h2]; exact hf q i (by omega) h2 h3)
    constructor
    · intro q i hi h1 h2
      by_cases e : q = r
      · subst e
        rw [k2 q i hi (by omega), g1 i hi]
      · exact k1 q i hi (by omega) h2
    · intro q i hi h1
      rw [k2 q i hi (by omega), g2 q i (by omega) hi]
theorem lins_get (hI : MI n c) (hR : RdC n c) (hS : ShC c s) (hL : ∀ r, r < n.1 → shS c s r = lfM c n.1 r (c 34 0 s)) : (∀ q i, i < 8 → q < n.1 → lins n c s (q * 8 + i) = (PM n c s q).getD i (-1)) ∧ (∀ q i, i < 8 → n.1 ≤ q → q < 8 → lins n c s (q * 8 + i) = -1) := by
  have hf : ∀ q i, i < 8 → q < 8 → cp 64 (c 17 0) nn1 (q * 8 + i) = -1 := fun q i h1 h2 => cp_lt (show q * 8 + i < 64 by omega)
  obtain ⟨k1, k2⟩ := lin_get hI hR hS hL n.1 0 (cp 64 (c 17 0) nn1) (Nat.zero_add _) (fun q i _ h2 h3 => hf q i h2 h3)
  exact ⟨fun q i h1 h2 => k1 q i h1 (Nat.zero_le q) h2, fun q i h1 h2 h3 => by unfold lins; rw [k2 q i h1 (Or.inr h2), hf q i h1 h3]⟩
/-- what was printed of road r on sheet s -/
def OldR (c : Cc) (s r : Nat) : Prop := ∃ k, k ≤ 8 ∧ c 44 0 (8 * s + r) = nI k ∧ (∀ i, i < k → c 17 (s + 1) (r * 8 + i) = c 45 0 (8 * (8 * s + r) + i) ∧ c 45 0 (8 * (8 * s + r) + i) ≠ -1) ∧ (∀ i, k ≤ i → i < 8 → c 17 (s + 1) (r * 8 + i) = -1)
theorem like_eq (hI : MI n c) (hR : RdC n c) (hr : r < n.1) (hO : OldR c s r) {f : Fn1} (hf : ∀ i, i < 8 → f (r * 8 + i) = (PM n c s r).getD i (-1)) : anyB (fun j => !decide (c 17 (s + 1) (r * 8 + j) = f (r * 8 + j))) 8 0 = !lkM n c s r := by
  obtain ⟨k, hk8, e44, h1, h2⟩ := hO
  have hl8 := PM_len (n := n) (c := c) (s := s) (r := r)
  have hne := PM_cd (s := s) hI hR hr
  unfold lkM cnt8
  rw [show cntI (fun p => hs (dwM n c s r) (nI p)) 8 0 (nI 0) = nI (PM n c s r).length by rw [cnt_len (B := cdM c r), Nat.zero_add]; rfl, e44]
  rw [Bool.eq_iff_iff, anyB_if0, Bool.not_eq_true', ← Bool.not_eq_true, Bool.and_eq_true, decide_eq_true_iff, nI_eq (by omega) (by omega), lkF_iff]
  constructor
  · rintro ⟨j, hj, h3⟩ ⟨h4, h5⟩
    rw [Bool.not_eq_true', decide_eq_false_iff_not, hf j hj] at h3
    refine h3 ?_
    by_cases hjk : j < k
    · rw [(h1 j hjk).1]
      have := h5 j (by show j < (PM n c s r).length; omega)
      rw [Nat.zero_add] at this
      exact this
    · rw [h2 j (by omega) hj, gtD_no (by omega)]
  · intro h3
    have : ¬ ∀ j, j < 8 → c 17 (s + 1) (r * 8 + j) = f (r * 8 + j) := by
      intro h4
      refine h3 ⟨?_, fun i hi => ?_⟩
      · by_cases z1 : (PM n c s r).length < k
        · have a1 := (h1 _ z1).2
          rw [← (h1 _ z1).1, h4 _ (by omega), hf _ (by omega), gtD_no (Nat.le_refl _)] at a1
          exact absurd rfl a1
        · by_cases z2 : k < (PM n c s r).length
          · have a1 := hne k z2
            rw [← hf k (by omega), ← h4 k (by omega), h2 k (Nat.le_refl k) (by omega)] at a1
            exact absurd rfl a1
          · omega
      · rw [Nat.zero_add]
        have hi : i < (PM n c s r).length := hi
        have a2 := h4 i (by omega)
        rw [hf i (by omega)] at a2
        by_cases z1 : i < k
        · rw [← (h1 i z1).1, a2]
          rfl
        · have a1 := hne i hi
          rw [← a2, h2 i (by omega) (by omega)] at a1
          exact absurd rfl a1
    by_cases h4 : ∃ j, j < 8 ∧ ¬ c 17 (s + 1) (r * 8 + j) = f (r * 8 + j)
    · obtain ⟨j, hj, h5⟩ := h4
      exact ⟨j, hj, by rw [decide_eq_false h5]; rfl⟩
    · exact absurd (fun j hj => Classical.byContradiction fun h5 => h4 ⟨j, hj, h5⟩) this
end
