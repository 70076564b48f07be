section
variable {n : Nn} {c X : Cc}
theorem left_at {N : Nat} {A B : Fn2} {r j : Nat} (hj : j < 4) {f : Fn1} : cp 4 f (leftR A B N r) j = leftC A B N r (nI j) := cp_lt hj
theorem SzA_of (hA : SzA n.2.2.2 (c 9)) (h : n.1 ≤ n.2.2.2) : ∀ i, i < n.1 → c 9 i 2 = nI (szO (c 9) i) ∧ szO (c 9) i ≤ 8 := fun i hi => hA i (by omega)
/-- road -/
theorem P_road (hI : Inv n c) {dn : Nat} (hd : c 18 0 3 = nI dn) (hd8 : dn ≤ 8) (hd2 : 2 ≤ dn) (hN : n.1 < 8) {a : Int32} : Inv (n.1 + 1, n.2.1, n.2.2.1, n.2.2.2 + 1) (mrC (roadC n c a) n.1 dn a) := by
  obtain ⟨i1, i2, i3, i4, i5, i6, i7, i8, i9, i10⟩ := hI
  obtain ⟨a1, a2, a3, a4, a5, a6, a7⟩ := i1
  obtain ⟨dn', k1, k2, k3, k4⟩ := i4
  have ed : dn' = dn := by
    rw [hd] at k2
    exact ((nI_eq (show dn < 2 ^ 31 by omega) (show dn' < 2 ^ 31 by omega)).mp k2).symm
  subst ed
  have ez : szO (c 9) n.1 = dn' := szO_nI k3 (by omega)
  have hM : n.2.2.2 ≠ n.1 := by omega
  have g : ∀ k, k ≠ 9 → k ≠ 10 → k ≠ 11 → roadC n c a k = c k := by
    intro k z1 z2 z3
    funext i
    unfold roadC rdC genC
    rw [cu_k z3, cu_k z2, cu_k z1, cw_n z3, cu_k z1]
  have e : ∀ k, (k ≠ 9 ∧ k ≠ 10 ∧ k ≠ 11 ∧ k ≠ 18 ∧ k ≠ 24 ∧ k ≠ 25 ∧ k ≠ 26 ∧ k ≠ 27) → mrC (roadC n c a) n.1 dn' a k = c k := by
    intro k z
    rw [← g k (by omega) (by omega) (by omega)]
    funext i
    unfold mrC thC
    rw [cu_k (by omega), cu_k (by omega), cu_k (by omega), cu_k (by omega), cu_k (by omega), cu_k (by omega), cu_k (by omega)]
  have el : ∀ k i, (k = 9 ∨ k = 10 ∨ k = 11) → mrC (roadC n c a) n.1 dn' a k i = roadC n c a k i := by
    intro k i z
    unfold mrC thC
    rw [cu_k (by omega), cu_k (by omega), cu_k (by omega), cu_k (by omega), cu_k (by omega), cu_k (by omega), cu_k (by omega)]
  have e9 : ∀ i, mrC (roadC n c a) n.1 dn' a 9 i = if i = n.2.2.2 then zNf else if i = n.1 then upd (c 9 n.1) 3 a else c 9 i := by
    intro i
    rw [el 9 i (by omega)]
    unfold roadC rdC genC
    rw [cu_k (by omega), cu_k (by omega)]
    by_cases z : i = n.2.2.2
    · rw [z, cu_s, if_pos rfl]
    · rw [cu_i z, if_neg z, cw_n (by omega)]
      by_cases z2 : i = n.1
      · rw [z2, cu_s, if_pos rfl]
      · rw [cu_i z2, if_neg z2]
  have e10 : ∀ i, mrC (roadC n c a) n.1 dn' a 10 i = if i = n.2.2.2 then z0f else c 10 i := by
    intro i
    rw [el 10 i (by omega)]
    unfold roadC rdC genC
    rw [cu_k (by omega)]
    by_cases z : i = n.2.2.2
    · rw [z, cu_s, if_pos rfl]
    · rw [cu_i z, if_neg z, cu_k (by omega), cw_n (by omega), cu_k (by omega)]
  have e11 : ∀ i, i < n.1 + 1 → mrC (roadC n c a) n.1 dn' a 11 i = cp 4 (c 11 i) (leftR (cu c 9 n.1 (upd (c 9 n.1) 3 a) 9) (c 10) (n.1 + 1) i) := by
    intro i hi
    rw [el 11 i (by omega)]
    unfold roadC rdC genC
    rw [cu_i (by omega), cu_k (by omega), cu_k (by omega), cw_s]
    unfold genR
    rw [if_pos hi, cu_k (by omega), show cu c 9 n.1 (upd (c 9 n.1) 3 a) 10 = c 10 by funext i; exact cu_k (by omega)]
  have e18 : ∀ j, j ≠ 0 → j ≠ 3 → j ≠ 8 → mrC (roadC n c a) n.1 dn' a 18 0 j = c 18 0 j := by
    intro j z1 z2 z3
    unfold mrC
    rw [cu_s, upd_n z3, upd_n z2, upd_n z1, g 18 (by omega) (by omega) (by omega)]
  have e183 : mrC (roadC n c a) n.1 dn' a 18 0 3 = nI 0 := by
    unfold mrC
    rw [cu_s, upd_n (by omega), upd_s]
  have e188 : mrC (roadC n c a) n.1 dn' a 18 0 8 = nI (n.1 + 1) := by
    unfold mrC
    rw [cu_s, upd_s]
  have e24 : mrC (roadC n c a) n.1 dn' a 24 0 = cpO (8 * n.1) dn' (c 24 0) (c 21 0) := by
    unfold mrC
    rw [cu_k (by omega), cu_k (by omega), cu_k (by omega), cu_k (by omega), cu_k (by omega), cu_s, g 24 (by omega) (by omega) (by omega), g 21 (by omega) (by omega) (by omega)]
  have e25 : mrC (roadC n c a) n.1 dn' a 25 0 = cpO (8 * n.1) dn' (c 25 0) (c 22 0) := by
    unfold mrC
    rw [cu_k (by omega), cu_k (by omega), cu_k (by omega), cu_k (by omega), cu_s, g 25 (by omega) (by omega) (by omega), g 22 (by omega) (by omega) (by omega)]
  have e26 : mrC (roadC n c a) n.1 dn' a 26 0 = upd (c 26 0) n.1 (nI dn') := by
    unfold mrC
    rw [cu_k (by omega), cu_k (by omega), cu_k (by omega), cu_s, g 26 (by omega) (by omega) (by omega)]
  have e27 : mrC (roadC n c a) n.1 dn' a 27 0 = upd (c 27 0) n.1 a := by
    unfold mrC
    rw [cu_k (by omega), cu_k (by omega), cu_s, g 27 (by omega) (by omega) (by omega)]
  generalize hX : mrC (roadC n c a) n.1 dn' a = X at *
  have eG : GM X = GM c := GM_e (e _ (by omega)) (e _ (by omega)) (e _ (by omega)) (e _ (by omega))
  have eU : ∀ s, UM X s = UM c s := fun s => UM_e (e _ (by omega)) (e _ (by omega)) (e _ (by omega)) (e _ (by omega)) (e _ (by omega)) (e _ (by omega))
  -- the tie over the roads as the generaliser saw them
  have tie : RdT (n.1 + 1) (cu c 9 n.1 (upd (c 9 n.1) 3 a) 9) (c 10) (X 24 0) (X 25 0) (X 26 0) (X 27 0) := by
    intro r hr
    by_cases z : r = n.1
    · subst z
      rw [cu_s]
      have es : szO (cu c 9 n.1 (upd (c 9 n.1) 3 a) 9) n.1 = dn' := szO_nI (by rw [cu_s, upd_n (by omega)]; exact k3) (by omega)
      rw [es, upd_n (by omega), upd_s, e26, upd_s, e27, upd_s]
      refine ⟨k3, rfl, fun p hp => ?_⟩
      obtain ⟨x, y, b1, b2, b3, b4, b5⟩ := k4 p hp
      refine ⟨x, y, b1, b2, ?_, ?_, b5⟩
      · rw [e24]
        unfold cpO
        rw [if_pos (by omega), Nat.add_sub_cancel_left, b3]
      · rw [e25]
        unfold cpO
        rw [if_pos (by omega), Nat.add_sub_cancel_left, b4]
    · have hr' : r < n.1 := by omega
      obtain ⟨t1, t2, t3⟩ := i3 r hr'
      have q : cu c 9 n.1 (upd (c 9 n.1) 3 a) 9 r = c 9 r := cu_i z
      unfold szO at t3 ⊢
      rw [q, e26, e27, upd_n z, upd_n z]
      refine ⟨t1, t2, fun p hp => ?_⟩
      have hp8 : p < 8 := Nat.lt_of_lt_of_le hp (a5 r (by omega)).2
      obtain ⟨x, y, b1, b2, b3, b4, b5⟩ := t3 p hp
      refine ⟨x, y, b1, b2, ?_, ?_, b5⟩
      · rw [e24]
        unfold cpO
        rw [if_neg (by omega), b3]
      · rw [e25]
        unfold cpO
        rw [if_neg (by omega), b4]
  have hA' : ∀ i, i < n.1 + 1 → cu c 9 n.1 (upd (c 9 n.1) 3 a) 9 i 2 = nI (szO (cu c 9 n.1 (upd (c 9 n.1) 3 a) 9) i) ∧ szO (cu c 9 n.1 (upd (c 9 n.1) 3 a) 9) i ≤ 8 := by
    intro i hi
    by_cases z : i = n.1
    · have q : cu c 9 n.1 (upd (c 9 n.1) 3 a) 9 i 2 = nI dn' := by rw [z, cu_s, upd_n (by omega)]; exact k3
      rw [szO_nI q (by omega), q]
      exact ⟨rfl, hd8⟩
    · have q : cu c 9 n.1 (upd (c 9 n.1) 3 a) 9 i = c 9 i := cu_i z
      unfold szO
      rw [q]
      exact a5 i (by omega)
  have hMz : SzM (n.1 + 1) (X 26 0) := by
    intro r hr
    unfold szN
    rw [e26]
    by_cases z : r = n.1
    · rw [z, upd_s, nI_clamp (by omega)]
      exact ⟨rfl, hd2, hd8⟩
    · rw [upd_n z]
      exact i2.2.2.2.2.2.2.1 r (by omega)
  refine ⟨⟨⟨by show n.1 + 1 ≤ 8; omega, by show n.1 + 1 ≤ n.2.2.2 + 1; omega⟩, a2, a3, by show n.2.2.2 + 1 = n.1 + 1 + 1; omega, ?_, ?_, ?_⟩, ?_, ?_, ?_, ?_, ?_, ?_, ?_, ?_, ?_⟩
  · intro i hi
    have hi : i < n.2.2.2 + 1 := hi
    by_cases z : i = n.2.2.2
    · have q : X 9 i 2 = nI 0 := by rw [e9, if_pos z]; rfl
      rw [szO_nI q (by omega), q]
      exact ⟨rfl, by omega⟩
    · have q : X 9 i = cu c 9 n.1 (upd (c 9 n.1) 3 a) 9 i := by
        rw [e9, if_neg z]
        by_cases z2 : i = n.1
        · rw [if_pos z2, z2, cu_s]
        · rw [if_neg z2, cu_i z2]
      have := hA' i (by omega)
      unfold szO at this ⊢
      rw [q]
      exact this
  · intro i hi
    have hi : i < n.1 + 1 := hi
    by_cases z : i = n.1
    · have q : X 9 i 2 = nI dn' := by rw [e9, if_neg (by omega), if_pos z, upd_n (by omega)]; exact k3
      rw [szO_nI q (by omega)]
      exact hd2
    · have q : X 9 i = c 9 i := by rw [e9, if_neg (by omega), if_neg z]
      unfold szO
      rw [q]
      exact a6 i (by omega)
  · rw [e 13 (by omega)]
    exact a7
  · obtain ⟨m1, m2, m3, m4, m5, m6, m7, m8, m9⟩ := i2
    refine ⟨e188, (e18 13 (by omega) (by omega) (by omega)).trans m2, (e18 22 (by omega) (by omega) (by omega)).trans m3, by show n.1 + 1 ≤ 8; omega, m5, m6, hMz, by rw [eG]; exact m8, ?_⟩
    rw [e 34 (by omega), e 41 (by omega)]
    exact m9
  · intro r hr
    have hr : r < n.1 + 1 := hr
    have q : X 9 r = cu c 9 n.1 (upd (c 9 n.1) 3 a) 9 r := by
      rw [e9, if_neg (by omega)]
      by_cases z2 : r = n.1
      · rw [if_pos z2, z2, cu_s]
      · rw [if_neg z2, cu_i z2]
    have := tie r hr
    unfold szO at this ⊢
    rw [q, e10, if_neg (by omega)]
    exact this
  · refine ⟨0, by omega, e183, ?_, fun p hp => by omega⟩
    show X 9 (n.1 + 1) 2 = nI 0
    rw [e9, if_pos (by omega)]
    rfl
  · exact NmI_f i5 (e _ (by omega)) eG
  · exact ShI_f i6 (e _ (by omega)) eU (e _ (by omega)) (e _ (by omega))
  · intro r hr j hj
    have hr : r < n.1 + 1 := hr
    rw [e11 r hr, left_at hj]
    exact left_eq tie hA' hr
  · exact PrI_f i8 (e _ (by omega)) (e _ (by omega)) (e _ (by omega)) (e _ (by omega)) (e _ (by omega)) (e _ (by omega))
  · intro s hs' r hr hr8
    have hr : n.1 + 1 ≤ r := hr
    rw [e 44 (by omega)]
    exact i9 s hs' r (by omega) hr8
  · exact UsI_f i10 (e _ (by omega)) (e _ (by omega))
/-- move -/
theorem P_move (hI : Inv n c) {r p x y : Nat} (hr : r < n.1) (hp : p < szO (c 9) r) (hx : x < 40) (hy : y < 40) : Inv n (mvC (movC n c r p (plV (nI x) (nI y))) (8 * r + p) (nI x) (nI y)) := by
  obtain ⟨i1, i2, i3, i4, i5, i6, i7, i8, i9, i10⟩ := hI
  have i1' := i1
  obtain ⟨a1, a2, a3, a4, a5, a6, a7⟩ := i1'
  have hz8 := (a5 r (by omega)).2
  have g : ∀ k, k ≠ 10 → k ≠ 11 → movC n c r p (plV (nI x) (nI y)) k = c k := by
    intro k z2 z3
    unfold movC genC
    rw [cw_n z3]
    funext i
    exact cu_k z2
  have e : ∀ k, (k ≠ 10 ∧ k ≠ 11 ∧ k ≠ 18 ∧ k ≠ 24 ∧ k ≠ 25) → mvC (movC n c r p (plV (nI x) (nI y))) (8 * r + p) (nI x) (nI y) k = c k := by
    intro k z
    rw [← g k (by omega) (by omega)]
    funext i
    unfold mvC thC
    rw [cu_k (by omega), cu_k (by omega), cu_k (by omega)]
  have e10 : mvC (movC n c r p (plV (nI x) (nI y))) (8 * r + p) (nI x) (nI y) 10 = cu c 10 r (upd (c 10 r) p (plV (nI x) (nI y))) 10 := by
    funext i
    unfold mvC thC movC genC
    rw [cu_k (by omega), cu_k (by omega), cu_k (by omega), cw_n (by omega)]
  have e11 : ∀ i, i < n.1 → mvC (movC n c r p (plV (nI x) (nI y))) (8 * r + p) (nI x) (nI y) 11 i = cp 4 (c 11 i) (leftR (c 9) (cu c 10 r (upd (c 10 r) p (plV (nI x) (nI y))) 10) n.1 i) := by
    intro i hi
    unfold mvC thC movC genC
    rw [cu_k (by omega), cu_k (by omega), cu_k (by omega), cw_s]
    unfold genR
    rw [if_pos hi, cu_k (by omega), show cu c 10 r (upd (c 10 r) p (plV (nI x) (nI y))) 9 = c 9 by funext i; exact cu_k (by omega)]
  have e18 : ∀ j, j ≠ 0 → mvC (movC n c r p (plV (nI x) (nI y))) (8 * r + p) (nI x) (nI y) 18 0 j = c 18 0 j := by
    intro j z1
    unfold mvC
    rw [cu_k (by omega), cu_k (by omega), thC_f z1, g 18 (by omega) (by omega)]
  have e24 : mvC (movC n c r p (plV (nI x) (nI y))) (8 * r + p) (nI x) (nI y) 24 0 = upd (c 24 0) (8 * r + p) (nI x) := by
    unfold mvC
    rw [cu_k (by omega), cu_s, g 24 (by omega) (by omega)]
  have e25 : mvC (movC n c r p (plV (nI x) (nI y))) (8 * r + p) (nI x) (nI y) 25 0 = upd (c 25 0) (8 * r + p) (nI y) := by
    unfold mvC
    rw [cu_s, g 25 (by omega) (by omega)]
  generalize hX : mvC (movC n c r p (plV (nI x) (nI y))) (8 * r + p) (nI x) (nI y) = X at *
  have eG : GM X = GM c := GM_e (e _ (by omega)) (e _ (by omega)) (e _ (by omega)) (e _ (by omega))
  have eU : ∀ s, UM X s = UM c s := fun s => UM_e (e _ (by omega)) (e _ (by omega)) (e _ (by omega)) (e _ (by omega)) (e _ (by omega)) (e _ (by omega))
  have tie : RdT n.1 (c 9) (cu c 10 r (upd (c 10 r) p (plV (nI x) (nI y))) 10) (X 24 0) (X 25 0) (X 26 0) (X 27 0) := by
    intro o ho
    obtain ⟨t1, t2, t3⟩ := i3 o ho
    rw [e 26 (by omega), e 27 (by omega), e24, e25]
    refine ⟨t1, t2, fun q hq => ?_⟩
    have hq8 := (a5 o (by omega)).2
    by_cases z : o = r
    · subst z
      rw [cu_s]
      by_cases z2 : q = p
      · subst z2
        refine ⟨x, y, hx, hy, upd_s, upd_s, ?_⟩
        rw [upd_s]
        unfold plV
        rw [pk_mul, nI_add]
      · rw [upd_n (by omega), upd_n (by omega), upd_n z2]
        exact t3 q hq
    · rw [cu_i z, upd_n (by omega), upd_n (by omega)]
      exact t3 q hq
  have hA' := SzA_of a5 a1.2
  refine ⟨?_, MI_e i2 (e18 _ (by omega)) (e18 _ (by omega)) (e18 _ (by omega)) (e _ (by omega)) (e _ (by omega)) (e _ (by omega)) (e _ (by omega)) (e _ (by omega)) (e _ (by omega)) (e _ (by omega)), ?_, DrI_f i4 (e18 _ (by omega)) (by rw [e 9 (by omega)]) (by rw [e10, cu_i (by omega)]) (e _ (by omega)) (e _ (by omega)), NmI_f i5 (e _ (by omega)) eG, ShI_f i6 (e _ (by omega)) eU (e _ (by omega)) (e _ (by omega)), ?_, PrI_f i8 (e _ (by omega)) (e _ (by omega)) (e _ (by omega)) (e _ (by omega)) (e _ (by omega)) (e _ (by omega)), ZeI_f i9 (e _ (by omega)), UsI_f i10 (e _ (by omega)) (e _ (by omega))⟩
  · rw [e 9 (by omega), e 13 (by omega)]
    exact i1
  · unfold RdC
    rw [e 9 (by omega), e10]
    exact tie
  · intro o ho j hj
    rw [e11 o ho, left_at hj]
    exact left_eq tie hA' ho
end
