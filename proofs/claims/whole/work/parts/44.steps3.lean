section
variable {n : Nn} {c X : Cc}
/-- name -/
theorem P_name (hI : Inv n c) (hN : n.2.1 < 10) {x y L : Nat} (hx : x < 40) (hy : y < 40) (hL1 : 1 ≤ L) (hL8 : L ≤ 8) {rk : Int32} : Inv (n.1, n.2.1 + 1, n.2.2) (nmM (cu c 12 n.2.1 (nmF (nI L) rk (nI x) (nI y))) n.2.1 (nI x) (nI y) (nI L) rk) := by
  obtain ⟨i1, i2, i3, i4, i5, i6, i7, i8, i9, i10⟩ := hI
  have e : ∀ k, (k ≠ 12 ∧ k ≠ 18 ∧ k ≠ 29 ∧ k ≠ 30 ∧ k ≠ 31 ∧ k ≠ 32) → nmM (cu c 12 n.2.1 (nmF (nI L) rk (nI x) (nI y))) n.2.1 (nI x) (nI y) (nI L) rk k = c k := by
    intro k z
    funext i
    unfold nmM thC
    rw [cu_k (by omega), cu_k (by omega), cu_k (by omega), cu_k (by omega), cu_k (by omega), cu_k (by omega), cu_k (by omega)]
  have e12 : ∀ i, nmM (cu c 12 n.2.1 (nmF (nI L) rk (nI x) (nI y))) n.2.1 (nI x) (nI y) (nI L) rk 12 i = if i = n.2.1 then nmF (nI L) rk (nI x) (nI y) else c 12 i := by
    intro i
    unfold nmM thC
    rw [cu_k (by omega), cu_k (by omega), cu_k (by omega), cu_k (by omega), cu_k (by omega), cu_k (by omega)]
    by_cases z : i = n.2.1
    · rw [z, cu_s, if_pos rfl]
    · rw [cu_i z, if_neg z]
  have e18 : ∀ j, j ≠ 0 → j ≠ 13 → nmM (cu c 12 n.2.1 (nmF (nI L) rk (nI x) (nI y))) n.2.1 (nI x) (nI y) (nI L) rk 18 0 j = c 18 0 j := by
    intro j z1 z2
    unfold nmM
    rw [cu_s, upd_n z2, upd_n z1, cu_k (by omega)]
  have e1813 : nmM (cu c 12 n.2.1 (nmF (nI L) rk (nI x) (nI y))) n.2.1 (nI x) (nI y) (nI L) rk 18 0 13 = nI (n.2.1 + 1) := by
    unfold nmM
    rw [cu_s, upd_s]
  have e29 : nmM (cu c 12 n.2.1 (nmF (nI L) rk (nI x) (nI y))) n.2.1 (nI x) (nI y) (nI L) rk 29 0 = upd (c 29 0) n.2.1 (nI x) := by
    unfold nmM
    rw [cu_k (by omega), cu_k (by omega), cu_k (by omega), cu_k (by omega), cu_s, cu_k (by omega)]
  have e30 : nmM (cu c 12 n.2.1 (nmF (nI L) rk (nI x) (nI y))) n.2.1 (nI x) (nI y) (nI L) rk 30 0 = upd (c 30 0) n.2.1 (nI y) := by
    unfold nmM
    rw [cu_k (by omega), cu_k (by omega), cu_k (by omega), cu_s, cu_k (by omega)]
  have e31 : nmM (cu c 12 n.2.1 (nmF (nI L) rk (nI x) (nI y))) n.2.1 (nI x) (nI y) (nI L) rk 31 0 = upd (c 31 0) n.2.1 (nI L) := by
    unfold nmM
    rw [cu_k (by omega), cu_k (by omega), cu_s, cu_k (by omega)]
  have e32 : nmM (cu c 12 n.2.1 (nmF (nI L) rk (nI x) (nI y))) n.2.1 (nI x) (nI y) (nI L) rk 32 0 = upd (c 32 0) n.2.1 rk := by
    unfold nmM
    rw [cu_k (by omega), cu_s, cu_k (by omega)]
  generalize hX : nmM (cu c 12 n.2.1 (nmF (nI L) rk (nI x) (nI y))) n.2.1 (nI x) (nI y) (nI L) rk = X at *
  have eU : ∀ s, UM X s = UM c s := fun s => UM_e (e _ (by omega)) (e _ (by omega)) (e _ (by omega)) (e _ (by omega)) (e _ (by omega)) (e _ (by omega))
  have eG : ∀ m, m ≠ n.2.1 → GM X m = GM c m := by
    intro m hm
    funext j
    unfold GM
    rw [e29, e30, e31, e32, upd_n hm, upd_n hm, upd_n hm, upd_n hm]
  have eGN : GM X n.2.1 = nmF (nI L) rk (nI x) (nI y) := by
    funext j
    unfold GM nmF
    rw [e29, e30, e31, e32, upd_s, upd_s, upd_s, upd_s]
    exact match j with
      | 0 => rfl
      | 1 => rfl
      | 2 => rfl
      | _ + 3 => rfl
  refine ⟨?_, ?_, RdC_f i3 (fun r _ => by rw [e 9 (by omega)]) (fun r _ => by rw [e 10 (by omega)]) (e _ (by omega)) (e _ (by omega)) (e _ (by omega)) (e _ (by omega)), DrI_f i4 (e18 _ (by omega) (by omega)) (by rw [e 9 (by omega)]) (by rw [e 10 (by omega)]) (e _ (by omega)) (e _ (by omega)), ?_, ShI_f i6 (e _ (by omega)) eU (e _ (by omega)) (e _ (by omega)), CaI_f i7 (e _ (by omega)) (e _ (by omega)) (e _ (by omega)) (e _ (by omega)) (e _ (by omega)), ?_, ZeI_f i9 (e _ (by omega)), UsI_f i10 (e _ (by omega)) (e _ (by omega))⟩
  · obtain ⟨a1, a2, a3, a4, a5, a6, a7⟩ := i1
    rw [e 9 (by omega), e 13 (by omega)]
    exact ⟨a1, by show n.2.1 + 1 ≤ 10; omega, a3, a4, a5, a6, a7⟩
  · obtain ⟨m1, m2, m3, m4, m5, m6, m7, m8, m9⟩ := i2
    refine ⟨(e18 _ (by omega) (by omega)).trans m1, e1813, (e18 _ (by omega) (by omega)).trans m3, m4, by show n.2.1 + 1 ≤ 10; omega, m6, by rw [e 26 (by omega)]; exact m7, ?_, ?_⟩
    · intro m hm
      have hm : m < n.2.1 + 1 := hm
      by_cases z : m = n.2.1
      · have q : GM X m = nmF (nI L) rk (nI x) (nI y) := by rw [z]; exact eGN
        unfold lnO
        rw [q]
        exact ⟨⟨x, y, hx, hy, rfl, rfl⟩, congrArg nI (nI_clamp (show L < 2 ^ 31 by omega)).symm, by show 1 ≤ (nI L).toNatClampNeg; rw [nI_clamp (by omega)]; exact hL1, by show (nI L).toNatClampNeg ≤ 8; rw [nI_clamp (by omega)]; exact hL8⟩
      · have := m8 m (by omega)
        unfold lnO at this ⊢
        rw [eG m z]
        exact this
    · rw [e 34 (by omega), e 41 (by omega)]
      exact m9
  · intro m hm j hj
    have hm : m < n.2.1 + 1 := hm
    rw [e12]
    by_cases z : m = n.2.1
    · rw [if_pos z, z, eGN]
    · rw [if_neg z, eG m z]
      exact i5 m (by omega) j hj
  · intro s hs' hp
    rw [e 13 (by omega)] at hp
    obtain ⟨p1, p2, p3⟩ := i8 s hs' hp
    unfold OldR
    rw [e 15 (by omega), e 17 (by omega), e 43 (by omega), e 44 (by omega), e 45 (by omega)]
    exact ⟨p1, fun m h1 h2 => p2 m (by have h1 : n.2.1 + 1 ≤ m := h1; omega) h2, p3⟩
/-- shift -/
theorem P_shift (hI : Inv n c) {m x y : Nat} (hm : m < n.2.1) (hx : x < 40) (hy : y < 40) : Inv n (shM (shfC c m (nI x) (nI y)) m (nI x) (nI y)) := by
  obtain ⟨i1, i2, i3, i4, i5, i6, i7, i8, i9, i10⟩ := hI
  have e : ∀ k, (k ≠ 12 ∧ k ≠ 18 ∧ k ≠ 29 ∧ k ≠ 30) → shM (shfC c m (nI x) (nI y)) m (nI x) (nI y) k = c k := by
    intro k z
    funext i
    unfold shM thC shfC
    rw [cu_k (by omega), cu_k (by omega), cu_k (by omega), cu_k (by omega)]
  have e12 : ∀ i, shM (shfC c m (nI x) (nI y)) m (nI x) (nI y) 12 i = if i = m then upd (upd (c 12 m) 2 (nI x)) 3 (nI y) else c 12 i := by
    intro i
    unfold shM thC shfC
    rw [cu_k (by omega), cu_k (by omega), cu_k (by omega)]
    by_cases z : i = m
    · rw [z, cu_s, if_pos rfl]
    · rw [cu_i z, if_neg z]
  have e18 : ∀ j, j ≠ 0 → shM (shfC c m (nI x) (nI y)) m (nI x) (nI y) 18 0 j = c 18 0 j := by
    intro j z1
    unfold shM shfC
    rw [cu_k (by omega), cu_k (by omega), thC_f z1, cu_k (by omega)]
  have e29 : shM (shfC c m (nI x) (nI y)) m (nI x) (nI y) 29 0 = upd (c 29 0) m (nI x) := by
    unfold shM shfC
    rw [cu_k (by omega), cu_s, cu_k (by omega)]
  have e30 : shM (shfC c m (nI x) (nI y)) m (nI x) (nI y) 30 0 = upd (c 30 0) m (nI y) := by
    unfold shM shfC
    rw [cu_s, cu_k (by omega)]
  generalize hX : shM (shfC c m (nI x) (nI y)) m (nI x) (nI y) = X at *
  have eU : ∀ s, UM X s = UM c s := fun s => UM_e (e _ (by omega)) (e _ (by omega)) (e _ (by omega)) (e _ (by omega)) (e _ (by omega)) (e _ (by omega))
  have eG : ∀ o, o ≠ m → GM X o = GM c o := by
    intro o ho
    funext j
    unfold GM
    rw [e29, e30, e 31 (by omega), e 32 (by omega), upd_n ho, upd_n ho]
  have eGm : GM X m = nmF (c 31 0 m) (c 32 0 m) (nI x) (nI y) := by
    funext j
    unfold GM nmF
    rw [e29, e30, e 31 (by omega), e 32 (by omega), upd_s, upd_s]
    exact match j with
      | 0 => rfl
      | 1 => rfl
      | 2 => rfl
      | _ + 3 => rfl
  have m8' : NmG n.2.1 (GM X) := by
    intro o ho
    have := i2.2.2.2.2.2.2.2.1 o ho
    by_cases z : o = m
    · subst z
      obtain ⟨_, t1, t2, t3⟩ := this
      have q : lnO (GM X) o = lnO (GM c) o := by unfold lnO; rw [eGm]; rfl
      rw [q, eGm]
      exact ⟨⟨x, y, hx, hy, rfl, rfl⟩, t1, t2, t3⟩
    · unfold lnO at this ⊢
      rw [eG o z]
      exact this
  refine ⟨?_, ?_, RdC_f i3 (fun r _ => by rw [e 9 (by omega)]) (fun r _ => by rw [e 10 (by omega)]) (e _ (by omega)) (e _ (by omega)) (e _ (by omega)) (e _ (by omega)), DrI_f i4 (e18 _ (by omega)) (by rw [e 9 (by omega)]) (by rw [e 10 (by omega)]) (e _ (by omega)) (e _ (by omega)), ?_, ShI_f i6 (e _ (by omega)) eU (e _ (by omega)) (e _ (by omega)), CaI_f i7 (e _ (by omega)) (e _ (by omega)) (e _ (by omega)) (e _ (by omega)) (e _ (by omega)), PrI_f i8 (e _ (by omega)) (e _ (by omega)) (e _ (by omega)) (e _ (by omega)) (e _ (by omega)) (e _ (by omega)), ZeI_f i9 (e _ (by omega)), UsI_f i10 (e _ (by omega)) (e _ (by omega))⟩
  · rw [e 9 (by omega), e 13 (by omega)]
    exact i1
  · obtain ⟨m1, m2, m3, m4, m5, m6, m7, m8, m9⟩ := i2
    refine ⟨(e18 _ (by omega)).trans m1, (e18 _ (by omega)).trans m2, (e18 _ (by omega)).trans m3, m4, m5, m6, by rw [e 26 (by omega)]; exact m7, m8', ?_⟩
    rw [e 34 (by omega), e 41 (by omega)]
    exact m9
  · intro o ho j hj
    rw [e12]
    by_cases z : o = m
    · subst z
      rw [if_pos rfl, eGm]
      have h0 := i5 o ho 0 (by omega)
      have h1 := i5 o ho 1 (by omega)
      match j, hj with
      | 0, _ => rw [upd_n (by omega), upd_n (by omega)]; exact h0
      | 1, _ => rw [upd_n (by omega), upd_n (by omega)]; exact h1
      | 2, _ => rw [upd_n (by omega), upd_s]; rfl
      | 3, _ => rw [upd_s]; rfl
    · rw [if_neg z, eG o z]
      exact i5 o ho j hj
/-- sheet -/
theorem P_sheet (hI : Inv n c) (hN : n.2.2.1 < 6) {sc a b r t g : Nat} (hsc : sc ≤ 3) (ha : a < 40) (hb : b < 40) (hr : r < 40) (ht : t < 40) (hg : g < 41) : Inv (n.1, n.2.1, n.2.2.1 + 1, n.2.2.2) (stM (shC c n.2.2.1 (shF (nI sc) (nI a) (nI b) (nI r) (nI t) (nI g - nI 1))) n.2.2.1 (nI sc) (nI a) (nI b) (nI r) (nI t) (nI g - nI 1)) := by
  obtain ⟨i1, i2, i3, i4, i5, i6, i7, i8, i9, i10⟩ := hI
  generalize hf : nI g - nI 1 = f
  have g0 : ∀ k, k ≠ 13 → k ≠ 15 → k ≠ 16 → k ≠ 17 → shC c n.2.2.1 (shF (nI sc) (nI a) (nI b) (nI r) (nI t) f) k = c k := by
    intro k z1 z2 z3 z4
    funext i
    unfold shC
    rw [cu_k z4, cu_k z3, cu_k z2, cu_k z1]
  have e : ∀ k, (k ≠ 13 ∧ k ≠ 15 ∧ k ≠ 16 ∧ k ≠ 17 ∧ k ≠ 18 ∧ k ≠ 34 ∧ k ≠ 35 ∧ k ≠ 36 ∧ k ≠ 37 ∧ k ≠ 38 ∧ k ≠ 39) → stM (shC c n.2.2.1 (shF (nI sc) (nI a) (nI b) (nI r) (nI t) f)) n.2.2.1 (nI sc) (nI a) (nI b) (nI r) (nI t) f k = c k := by
    intro k z
    rw [← g0 k (by omega) (by omega) (by omega) (by omega)]
    funext i
    unfold stM thC
    rw [cu_k (by omega), cu_k (by omega), cu_k (by omega), cu_k (by omega), cu_k (by omega), cu_k (by omega), cu_k (by omega), cu_k (by omega)]
  have el : ∀ k i, (k = 13 ∨ k = 15 ∨ k = 16 ∨ k = 17) → stM (shC c n.2.2.1 (shF (nI sc) (nI a) (nI b) (nI r) (nI t) f)) n.2.2.1 (nI sc) (nI a) (nI b) (nI r) (nI t) f k i = shC c n.2.2.1 (shF (nI sc) (nI a) (nI b) (nI r) (nI t) f) k i := by
    intro k i z
    unfold stM thC
    rw [cu_k (by omega), cu_k (by omega), cu_k (by omega), cu_k (by omega), cu_k (by omega), cu_k (by omega), cu_k (by omega), cu_k (by omega)]
  have e13 : ∀ i, stM (shC c n.2.2.1 (shF (nI sc) (nI a) (nI b) (nI r) (nI t) f)) n.2.2.1 (nI sc) (nI a) (nI b) (nI r) (nI t) f 13 i = if i = n.2.2.1 then shF (nI sc) (nI a) (nI b) (nI r) (nI t) f else c 13 i := by
    intro i
    rw [el 13 i (by omega)]
    unfold shC
    rw [cu_k (by omega), cu_k (by omega), cu_k (by omega)]
    by_cases z : i = n.2.2.1
    · rw [z, cu_s, if_pos rfl]
    · rw [cu_i z, if_neg z]
  have e1517 : ∀ k i, (k = 15 ∨ k = 17) → i ≠ n.2.2.1 + 1 → stM (shC c n.2.2.1 (shF (nI sc) (nI a) (nI b) (nI r) (nI t) f)) n.2.2.1 (nI sc) (nI a) (nI b) (nI r) (nI t) f k i = c k i := by
    intro k i z1 z2
    rw [el k i (by omega)]
    exact shC_n (by omega) (by omega)
  have e18 : ∀ j, j ≠ 0 → j ≠ 22 → stM (shC c n.2.2.1 (shF (nI sc) (nI a) (nI b) (nI r) (nI t) f)) n.2.2.1 (nI sc) (nI a) (nI b) (nI r) (nI t) f 18 0 j = c 18 0 j := by
    intro j z1 z2
    unfold stM
    rw [cu_s, upd_n z2, upd_n z1, g0 18 (by omega) (by omega) (by omega) (by omega)]
  have e1822 : stM (shC c n.2.2.1 (shF (nI sc) (nI a) (nI b) (nI r) (nI t) f)) n.2.2.1 (nI sc) (nI a) (nI b) (nI r) (nI t) f 18 0 22 = nI (n.2.2.1 + 1) := by
    unfold stM
    rw [cu_s, upd_s]
  have e34 : stM (shC c n.2.2.1 (shF (nI sc) (nI a) (nI b) (nI r) (nI t) f)) n.2.2.1 (nI sc) (nI a) (nI b) (nI r) (nI t) f 34 0 = upd (c 34 0) n.2.2.1 (nI sc) := by
    unfold stM
    rw [cu_k (by omega), cu_k (by omega), cu_k (by omega), cu_k (by omega), cu_k (by omega), cu_k (by omega), cu_s, g0 34 (by omega) (by omega) (by omega) (by omega)]
  have e35 : stM (shC c n.2.2.1 (shF (nI sc) (nI a) (nI b) (nI r) (nI t) f)) n.2.2.1 (nI sc) (nI a) (nI b) (nI r) (nI t) f 35 0 = upd (c 35 0) n.2.2.1 (nI a) := by
    unfold stM
    rw [cu_k (by omega), cu_k (by omega), cu_k (by omega), cu_k (by omega), cu_k (by omega), cu_s, g0 35 (by omega) (by omega) (by omega) (by omega)]
  have e36 : stM (shC c n.2.2.1 (shF (nI sc) (nI a) (nI b) (nI r) (nI t) f)) n.2.2.1 (nI sc) (nI a) (nI b) (nI r) (nI t) f 36 0 = upd (c 36 0) n.2.2.1 (nI b) := by
    unfold stM
    rw [cu_k (by omega), cu_k (by omega), cu_k (by omega), cu_k (by omega), cu_s, g0 36 (by omega) (by omega) (by omega) (by omega)]
  have e37 : stM (shC c n.2.2.1 (shF (nI sc) (nI a) (nI b) (nI r) (nI t) f)) n.2.2.1 (nI sc) (nI a) (nI b) (nI r) (nI t) f 37 0 = upd (c 37 0) n.2.2.1 (nI r) := by
    unfold stM
    rw [cu_k (by omega), cu_k (by omega), cu_k (by omega), cu_s, g0 37 (by omega) (by omega) (by omega) (by omega)]
  have e38 : stM (shC c n.2.2.1 (shF (nI sc) (nI a) (nI b) (nI r) (nI t) f)) n.2.2.1 (nI sc) (nI a) (nI b) (nI r) (nI t) f 38 0 = upd (c 38 0) n.2.2.1 (nI t) := by
    unfold stM
    rw [cu_k (by omega), cu_k (by omega), cu_s, g0 38 (by omega) (by omega) (by omega) (by omega)]
  have e39 : stM (shC c n.2.2.1 (shF (nI sc) (nI a) (nI b) (nI r) (nI t) f)) n.2.2.1 (nI sc) (nI a) (nI b) (nI r) (nI t) f 39 0 = upd (c 39 0) n.2.2.1 f := by
    unfold stM
    rw [cu_k (by omega), cu_s, g0 39 (by omega) (by omega) (by omega) (by omega)]
  generalize hX : stM (shC c n.2.2.1 (shF (nI sc) (nI a) (nI b) (nI r) (nI t) f)) n.2.2.1 (nI sc) (nI a) (nI b) (nI r) (nI t) f = X at *
  have eG : GM X = GM c := GM_e (e _ (by omega)) (e _ (by omega)) (e _ (by omega)) (e _ (by omega))
  have eU : ∀ s, s ≠ n.2.2.1 → UM X s = UM c s := by
    intro s hs'
    funext j
    unfold UM
    rw [e34, e35, e36, e37, e38, e39, upd_n hs', upd_n hs', upd_n hs', upd_n hs', upd_n hs', upd_n hs']
  have eUN : ∀ j, j < 6 → UM X n.2.2.1 j = shF (nI sc) (nI a) (nI b) (nI r) (nI t) f j := by
    intro j hj
    unfold UM shF
    rw [e34, e35, e36, e37, e38, e39, upd_s, upd_s, upd_s, upd_s, upd_s, upd_s]
    match j, hj with
    | 0, _ => rfl
    | 1, _ => rfl
    | 2, _ => rfl
    | 3, _ => rfl
    | 4, _ => rfl
    | 5, _ => rfl
  have e41 := (i10 n.2.2.1 (Nat.le_refl _) hN)
  refine ⟨?_, ?_, RdC_f i3 (fun r _ => by rw [e 9 (by omega)]) (fun r _ => by rw [e 10 (by omega)]) (e _ (by omega)) (e _ (by omega)) (e _ (by omega)) (e _ (by omega)), DrI_f i4 (e18 _ (by omega) (by omega)) (by rw [e 9 (by omega)]) (by rw [e 10 (by omega)]) (e _ (by omega)) (e _ (by omega)), NmI_f i5 (e _ (by omega)) eG, ?_, CaI_f i7 (e _ (by omega)) (e _ (by omega)) (e _ (by omega)) (e _ (by omega)) (e _ (by omega)), ?_, ZeI_f i9 (e _ (by omega)), ?_⟩
  · obtain ⟨a1, a2, a3, a4, a5, a6, a7⟩ := i1
    refine ⟨a1, a2, by show n.2.2.1 + 1 ≤ 6; omega, a4, by rw [e 9 (by omega)]; exact a5, by rw [e 9 (by omega)]; exact a6, fun s hs' => ?_⟩
    have hs' : s < n.2.2.1 + 1 := hs'
    by_cases z : s = n.2.2.1
    · have q : X 13 s = shF (nI sc) (nI a) (nI b) (nI r) (nI t) f := by rw [e13, if_pos z]
      unfold scO
      rw [q]
      refine ⟨congrArg nI (nI_clamp (show sc < 2 ^ 31 by omega)).symm, by show (nI sc).toNatClampNeg ≤ 3; rw [nI_clamp (by omega)]; exact hsc, (show nI 0 = bI (prB (nI 0)) by decide)⟩
    · have q : X 13 s = c 13 s := by rw [e13, if_neg z]
      have := a7 s (by omega)
      unfold scO at this ⊢
      rw [q]
      exact this
  · obtain ⟨m1, m2, m3, m4, m5, m6, m7, m8, m9⟩ := i2
    refine ⟨(e18 _ (by omega) (by omega)).trans m1, (e18 _ (by omega) (by omega)).trans m2, e1822, m4, m5, by show n.2.2.1 + 1 ≤ 6; omega, by rw [e 26 (by omega)]; exact m7, by rw [eG]; exact m8, fun s hs' => ?_⟩
    have hs' : s < n.2.2.1 + 1 := hs'
    rw [e34, e 41 (by omega)]
    unfold szN
    by_cases z : s = n.2.2.1
    · rw [z, upd_s, nI_clamp (by omega), e41.1]
      exact ⟨rfl, hsc, by decide⟩
    · rw [upd_n z]
      exact m9 s (by omega)
  · intro s hs'
    have hs' : s < n.2.2.1 + 1 := hs'
    by_cases z : s = n.2.2.1
    · have q : X 13 s = shF (nI sc) (nI a) (nI b) (nI r) (nI t) f := by rw [e13, if_pos z]
      unfold ShC
      rw [q, e 41 (by omega), e 40 (by omega), z, e41.1, e41.2]
      refine ⟨fun j hj => (eUN j hj).symm, ⟨a, b, r, t, g, ha, hb, hr, ht, hg, eUN 1 (by omega), eUN 2 (by omega), eUN 3 (by omega), eUN 4 (by omega), (eUN 5 (by omega)).trans hf.symm⟩, rfl, rfl⟩
    · have := i6 s (by omega)
      unfold ShC at this ⊢
      rw [eU s z, e13, if_neg z, e 41 (by omega), e 40 (by omega)]
      exact this
  · intro s hs' hp
    have hs' : s < n.2.2.1 + 1 := hs'
    by_cases z : s = n.2.2.1
    · exfalso
      have q : X 13 s 7 = nI 0 := by rw [e13, if_pos z]; rfl
      rw [q] at hp
      exact absurd hp (by decide)
    · rw [e13, if_neg z] at hp
      have := i8 s (by omega) hp
      unfold OldR at this ⊢
      rw [e1517 15 (s + 1) (by omega) (by omega), e1517 17 (s + 1) (by omega) (by omega), e 43 (by omega), e 44 (by omega), e 45 (by omega)]
      exact this
  · intro s h1 h2
    have h1 : n.2.2.1 + 1 ≤ s := h1
    rw [e 41 (by omega), e 40 (by omega)]
    exact i10 s (by omega) h2
/-- sell -/
theorem P_sell (hI : Inv n c) {s : Nat} (hs0 : s < n.2.2.1) {m : Int32} : Inv n (slM (soldC c s m) s m) := by
  obtain ⟨i1, i2, i3, i4, i5, i6, i7, i8, i9, i10⟩ := hI
  have e : ∀ k, (k ≠ 13 ∧ k ≠ 18 ∧ k ≠ 40) → slM (soldC c s m) s m k = c k := by
    intro k z
    funext i
    unfold slM thC soldC
    rw [cu_k (by omega), cu_k (by omega), cu_k (by omega)]
  have e13 : ∀ i, slM (soldC c s m) s m 13 i = if i = s then upd (c 13 s) 8 (c 13 s 8 - m) else c 13 i := by
    intro i
    unfold slM thC soldC
    rw [cu_k (by omega), cu_k (by omega)]
    by_cases z : i = s
    · rw [z, cu_s, if_pos rfl]
    · rw [cu_i z, if_neg z]
  have e18 : ∀ j, j ≠ 0 → slM (soldC c s m) s m 18 0 j = c 18 0 j := by
    intro j z1
    unfold slM soldC
    rw [cu_k (by omega), thC_f z1, cu_k (by omega)]
  have e40 : slM (soldC c s m) s m 40 0 = upd (c 40 0) s (c 40 0 s - m) := by
    unfold slM soldC
    rw [cu_s, cu_k (by omega)]
  generalize hX : slM (soldC c s m) s m = X at *
  have eG : GM X = GM c := GM_e (e _ (by omega)) (e _ (by omega)) (e _ (by omega)) (e _ (by omega))
  have eU : ∀ s, UM X s = UM c s := fun s => UM_e (e _ (by omega)) (e _ (by omega)) (e _ (by omega)) (e _ (by omega)) (e _ (by omega)) (e _ (by omega))
  have e13j : ∀ i j, j ≠ 8 → X 13 i j = c 13 i j := by
    intro i j hj
    rw [e13]
    by_cases z : i = s
    · rw [if_pos z, upd_n hj, z]
    · rw [if_neg z]
  refine ⟨?_, MI_e i2 (e18 _ (by omega)) (e18 _ (by omega)) (e18 _ (by omega)) (e _ (by omega)) (e _ (by omega)) (e _ (by omega)) (e _ (by omega)) (e _ (by omega)) (e _ (by omega)) (e _ (by omega)), RdC_f i3 (fun r _ => by rw [e 9 (by omega)]) (fun r _ => by rw [e 10 (by omega)]) (e _ (by omega)) (e _ (by omega)) (e _ (by omega)) (e _ (by omega)), DrI_f i4 (e18 _ (by omega)) (by rw [e 9 (by omega)]) (by rw [e 10 (by omega)]) (e _ (by omega)) (e _ (by omega)), NmI_f i5 (e _ (by omega)) eG, ?_, CaI_f i7 (e _ (by omega)) (e _ (by omega)) (e _ (by omega)) (e _ (by omega)) (e _ (by omega)), ?_, ZeI_f i9 (e _ (by omega)), ?_⟩
  · rw [e 9 (by omega)]
    exact CI_i i1 rfl (fun i => ⟨e13j i 0 (by omega), e13j i 7 (by omega)⟩)
  · intro i hi
    obtain ⟨b1, b2, b3, b4⟩ := i6 i hi
    refine ⟨fun j hj => ?_, by rw [eU]; exact b2, by rw [e13j i 7 (by omega), e 41 (by omega)]; exact b3, ?_⟩
    · rw [e13j i j (by omega), eU]
      exact b1 j hj
    · rw [e13, e40]
      by_cases z : i = s
      · subst z
        rw [if_pos rfl, upd_s, upd_s, b4]
      · rw [if_neg z, upd_n z]
        exact b4
  · intro i hi hp
    rw [e13j i 7 (by omega)] at hp
    have := i8 i hi hp
    unfold OldR at this ⊢
    rw [e 15 (by omega), e 17 (by omega), e 43 (by omega), e 44 (by omega), e 45 (by omega)]
    exact this
  · intro i h1 h2
    rw [e 41 (by omega), e40, upd_n (by omega)]
    exact i10 i h1 h2
end
