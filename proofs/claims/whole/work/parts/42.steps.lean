/-! each call keeps it -/
section
variable {n : Nn} {c X : Cc}
theorem RdC_f (h : RdC n c) (h9 : ∀ r, r < n.1 → X 9 r = c 9 r) (h10 : ∀ r, r < n.1 → X 10 r = c 10 r) (a4 : X 24 = c 24) (a5 : X 25 = c 25) (a6 : X 26 = c 26) (a7 : X 27 = c 27) : RdC n X := by
  intro r hr
  have := h r hr
  unfold szO at this ⊢
  rw [h9 r hr, h10 r hr, a4, a5, a6, a7]
  exact this
theorem DrI_f (h : DrI n c) (a1 : X 18 0 3 = c 18 0 3) (a2 : X 9 n.1 = c 9 n.1) (a3 : X 10 n.1 = c 10 n.1) (a4 : X 21 = c 21) (a5 : X 22 = c 22) : DrI n X := by
  unfold DrI
  rw [a1, a2, a3, a4, a5]
  exact h
theorem NmI_f (h : NmI n c) (a1 : X 12 = c 12) (a2 : GM X = GM c) : NmI n X := by
  unfold NmI
  rw [a1, a2]
  exact h
theorem ShI_f (h : ShI n c) (a1 : X 13 = c 13) (a2 : ∀ s, UM X s = UM c s) (a3 : X 40 = c 40) (a4 : X 41 = c 41) : ShI n X := by
  intro s hs'
  have := h s hs'
  unfold ShC at this ⊢
  rw [a1, a2, a3, a4]
  exact this
theorem CaI_f (h : CaI n c) (a1 : X 11 = c 11) (a4 : X 24 = c 24) (a5 : X 25 = c 25) (a6 : X 26 = c 26) (a7 : X 27 = c 27) : CaI n X := by
  unfold CaI lfM
  rw [a1, a4, a5, a6, a7]
  exact h
theorem PrI_f (h : PrI n c) (a1 : X 13 = c 13) (a2 : X 15 = c 15) (a3 : X 17 = c 17) (a4 : X 43 = c 43) (a5 : X 44 = c 44) (a6 : X 45 = c 45) : PrI n X := by
  unfold PrI OldR
  rw [a1, a2, a3, a4, a5, a6]
  exact h
theorem ZeI_f (h : ZeI n c) (a5 : X 44 = c 44) : ZeI n X := by
  unfold ZeI
  rw [a5]
  exact h
theorem UsI_f (h : UsI n c) (a3 : X 40 = c 40) (a4 : X 41 = c 41) : UsI n X := by
  unfold UsI
  rw [a3, a4]
  exact h
/-- draft -/
theorem P_draft (hI : Inv n c) {dn x y : Nat} (hd : c 18 0 3 = nI dn) (hd8 : dn < 8) (hx : x < 40) (hy : y < 40) : Inv n (mdC (drfC n c (plV (nI x) (nI y))) dn (nI x) (nI y)) := by
  obtain ⟨i1, i2, i3, i4, i5, i6, i7, i8, i9, i10⟩ := hI
  obtain ⟨dn', k1, k2, k3, k4⟩ := i4
  have ed : dn' = dn := by
    rw [hd] at k2
    exact ((nI_eq (show dn < 2 ^ 31 by omega) (show dn' < 2 ^ 31 by omega)).mp k2).symm
  subst ed
  have ez : szO (c 9) n.1 = dn' := szO_nI k3 (by omega)
  have e : ∀ k, k ≠ 9 → k ≠ 10 → k ≠ 18 → k ≠ 21 → k ≠ 22 → mdC (drfC n c (plV (nI x) (nI y))) dn' (nI x) (nI y) k = c k := by
    intro k z1 z2 z3 z4 z5
    funext i
    unfold mdC drfC thC
    rw [cu_k z3, cu_k z5, cu_k z4, cu_k z3, cu_k z1, cu_k z2]
  have e9 : ∀ i, mdC (drfC n c (plV (nI x) (nI y))) dn' (nI x) (nI y) 9 i = if i = n.1 then upd (c 9 n.1) 2 (nI (dn' + 1)) else c 9 i := by
    intro i
    unfold mdC drfC thC
    rw [cu_k (by omega), cu_k (by omega), cu_k (by omega), cu_k (by omega), ez]
    by_cases z : i = n.1
    · rw [z, cu_s, if_pos rfl]
    · rw [cu_i z, cu_k (by omega), if_neg z]
  have e10 : ∀ i, mdC (drfC n c (plV (nI x) (nI y))) dn' (nI x) (nI y) 10 i = if i = n.1 then upd (c 10 n.1) dn' (plV (nI x) (nI y)) else c 10 i := by
    intro i
    unfold mdC drfC thC
    rw [cu_k (by omega), cu_k (by omega), cu_k (by omega), cu_k (by omega), cu_k (by omega), ez]
    by_cases z : i = n.1
    · rw [z, cu_s, if_pos rfl]
    · rw [cu_i z, if_neg z]
  have e18 : ∀ j, j ≠ 0 → j ≠ 3 → mdC (drfC n c (plV (nI x) (nI y))) dn' (nI x) (nI y) 18 0 j = c 18 0 j := by
    intro j z1 z2
    unfold mdC drfC thC
    rw [cu_s, upd_n z2, upd_n z1, cu_k (by omega), cu_k (by omega)]
  have e183 : mdC (drfC n c (plV (nI x) (nI y))) dn' (nI x) (nI y) 18 0 3 = nI (dn' + 1) := by
    unfold mdC
    rw [cu_s, upd_s]
  have e21 : mdC (drfC n c (plV (nI x) (nI y))) dn' (nI x) (nI y) 21 0 = upd (c 21 0) dn' (nI x) := by
    unfold mdC drfC
    rw [cu_k (by omega), cu_k (by omega), cu_s, cu_k (by omega), cu_k (by omega)]
  have e22 : mdC (drfC n c (plV (nI x) (nI y))) dn' (nI x) (nI y) 22 0 = upd (c 22 0) dn' (nI y) := by
    unfold mdC drfC
    rw [cu_k (by omega), cu_s, cu_k (by omega), cu_k (by omega)]
  generalize hX : mdC (drfC n c (plV (nI x) (nI y))) dn' (nI x) (nI y) = X at *
  have eG : GM X = GM c := GM_e (e _ (by omega) (by omega) (by omega) (by omega) (by omega)) (e _ (by omega) (by omega) (by omega) (by omega) (by omega)) (e _ (by omega) (by omega) (by omega) (by omega) (by omega)) (e _ (by omega) (by omega) (by omega) (by omega) (by omega))
  have eU : ∀ s, UM X s = UM c s := fun s => UM_e (e _ (by omega) (by omega) (by omega) (by omega) (by omega)) (e _ (by omega) (by omega) (by omega) (by omega) (by omega)) (e _ (by omega) (by omega) (by omega) (by omega) (by omega)) (e _ (by omega) (by omega) (by omega) (by omega) (by omega)) (e _ (by omega) (by omega) (by omega) (by omega) (by omega)) (e _ (by omega) (by omega) (by omega) (by omega) (by omega))
  have e' := fun k (z : k ≠ 9 ∧ k ≠ 10 ∧ k ≠ 18 ∧ k ≠ 21 ∧ k ≠ 22) => e k z.1 z.2.1 z.2.2.1 z.2.2.2.1 z.2.2.2.2
  refine ⟨?_, MI_e i2 (e18 _ (by omega) (by omega)) (e18 _ (by omega) (by omega)) (e18 _ (by omega) (by omega)) (e' _ (by omega)) (e' _ (by omega)) (e' _ (by omega)) (e' _ (by omega)) (e' _ (by omega)) (e' _ (by omega)) (e' _ (by omega)), RdC_f i3 (fun r hr => by rw [e9, if_neg (by omega)]) (fun r hr => by rw [e10, if_neg (by omega)]) (e' _ (by omega)) (e' _ (by omega)) (e' _ (by omega)) (e' _ (by omega)), ?_, NmI_f i5 (e' _ (by omega)) eG, ShI_f i6 (e' _ (by omega)) eU (e' _ (by omega)) (e' _ (by omega)), CaI_f i7 (e' _ (by omega)) (e' _ (by omega)) (e' _ (by omega)) (e' _ (by omega)) (e' _ (by omega)), PrI_f i8 (e' _ (by omega)) (e' _ (by omega)) (e' _ (by omega)) (e' _ (by omega)) (e' _ (by omega)) (e' _ (by omega)), ZeI_f i9 (e' _ (by omega)), UsI_f i10 (e' _ (by omega)) (e' _ (by omega))⟩
  · obtain ⟨a1, a2, a3, a4, a5, a6, a7⟩ := i1
    refine ⟨a1, a2, a3, a4, fun i hi => ?_, fun i hi => ?_, ?_⟩
    · by_cases z : i = n.1
      · have q : X 9 i 2 = nI (dn' + 1) := by rw [e9, if_pos z, upd_s]
        rw [szO_nI q (by omega), q]
        exact ⟨rfl, by omega⟩
      · have q : X 9 i = c 9 i := by rw [e9, if_neg z]
        unfold szO
        rw [q]
        exact a5 i hi
    · have q : X 9 i = c 9 i := by rw [e9, if_neg (by omega)]
      unfold szO
      rw [q]
      exact a6 i hi
    · rw [e' 13 (by omega)]
      exact a7
  · refine ⟨dn' + 1, by omega, e183, by rw [e9, if_pos rfl, upd_s], fun p hp => ?_⟩
    rw [e21, e22, e10, if_pos rfl]
    by_cases z : p = dn'
    · refine ⟨x, y, hx, hy, by rw [z, upd_s], by rw [z, upd_s], ?_⟩
      rw [z, upd_s]
      unfold plV
      rw [pk_mul, nI_add]
    · rw [upd_n z, upd_n z, upd_n z]
      exact k4 p (by omega)
end
