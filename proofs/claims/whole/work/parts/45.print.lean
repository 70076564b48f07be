/-- the model's rows are the same -/
def Me (c d : Cc) : Prop := ∀ k, 20 ≤ k → k ≠ 46 → k ≠ 47 → d k = c k
section
variable {n : Nn} {c d X : Cc} {s : Nat}
theorem Me_Sc (h : Sc c d) : Me c d := fun k hk h6 h7 => Sc_k h (by omega)
theorem Me_t {e : Cc} (h : Me c d) (g : Me d e) : Me c e := fun k hk h6 h7 => (g k hk h6 h7).trans (h k hk h6 h7)
theorem PM_me (h : Me c d) {r : Nat} : PM n d s r = PM n c s r := by
  unfold PM cdM dwM lfM
  rw [h 24 (by omega) (by omega) (by omega), h 25 (by omega) (by omega) (by omega), h 26 (by omega) (by omega) (by omega), h 27 (by omega) (by omega) (by omega), h 34 (by omega) (by omega) (by omega), h 35 (by omega) (by omega) (by omega), h 36 (by omega) (by omega) (by omega), h 37 (by omega) (by omega) (by omega), h 38 (by omega) (by omega) (by omega)]
theorem lbl_me (h : ∀ k, 20 ≤ k → d k = c k) : lblM n d s = lblM n c s := by
  unfold lblM
  rw [GM_e (h 29 (by omega)) (h 30 (by omega)) (h 31 (by omega)) (h 32 (by omega)), UM_e (h 34 (by omega)) (h 35 (by omega)) (h 36 (by omega)) (h 37 (by omega)) (h 38 (by omega)) (h 39 (by omega)), h 47 (by omega), h 46 (by omega), h 34 (by omega)]
theorem errM_me (h : ∀ k, 20 ≤ k → d k = c k) : errM n d s = errM n c s := by
  unfold errM
  rw [lbl_me h, h 41 (by omega), h 43 (by omega)]
  have e : ∀ r, lkM n d s r = lkM n c s r := fun r => by
    unfold lkM cdM dwM lfM
    rw [h 24 (by omega), h 25 (by omega), h 26 (by omega), h 27 (by omega), h 34 (by omega), h 35 (by omega), h 36 (by omega), h 37 (by omega), h 38 (by omega), h 44 (by omega), h 45 (by omega)]
  simp only [e]
theorem errC_n : ∃ K, K ≤ 18 ∧ errC n c s = nI K := by
  unfold errC
  split
  · unfold diffs
    rw [cnt_len (B := nn1), cnt_len (B := nn1)]
    refine ⟨_, ?_, rfl⟩
    have h1 : ∀ (f : Nat → Bool) k, (pts f nn1 k 0).length ≤ k := fun f k => pts_len
    have a := h1 (fun j => !decide (c 15 (s + 1) j = (lbls n c s).1 j)) 10
    have b := h1 (fun r => anyB (fun j => !decide (c 17 (s + 1) (r * 8 + j) = lins n c s (r * 8 + j))) 8 0) 8
    omega
  · exact ⟨0, by omega, rfl⟩
theorem errC_0 : (errC n c s ≤ 0) = (errC n c s = 0) := by
  obtain ⟨K, hK, e⟩ := errC_n (n := n) (c := c) (s := s)
  rw [e]
  refine propext ?_
  rw [← nI_0, nI_leI (by omega) (by omega), nI_eq (by omega) (by omega)]
  omega
/-- what keeps leaves in the rows of old sizes and points -/
theorem kp_get {r0 : Nat} : ∀ (k r : Nat) (F : S2), (∀ q, r ≤ q → q < r + k → (itF (kpR n c s) k r F).1 (8 * s + q) = nI (PM n c s q).length ∧ ∀ i, i < (PM n c s q).length → (itF (kpR n c s) k r F).2 (8 * (8 * s + q) + i) = (PM n c s q).getD i (-1)) ∧ (∀ j, (∀ q, r ≤ q → q < r + k → j ≠ 8 * s + q) → (itF (kpR n c s) k r F).1 j = F.1 j) ∧ (∀ j, (∀ q i, r ≤ q → q < r + k → i < 8 → j ≠ 8 * (8 * s + q) + i) → (itF (kpR n c s) k r F).2 j = F.2 j)
  | 0, r, F => by
    rw [itF_0]
    exact ⟨fun q h1 h2 => by omega, fun j _ => rfl, fun j _ => rfl⟩
  | k + 1, r, F => by
    rw [itF_s]
    obtain ⟨a1, a2, a3⟩ := kp_get (r0 := r0) k (r + 1) (kpR n c s r F)
    have hlen : ∀ q, (PM n c s q).length ≤ 8 := fun q => PM_len
    have f1 : ∀ j, (kpR n c s r F).1 j = if j = 8 * s + r then nI (PM n c s r).length else F.1 j := by
      intro j
      unfold kpR
      rw [dC_len (B := cdM c r), Nat.zero_add]
      rfl
    have f2 : ∀ j, (kpR n c s r F).2 j = if 8 * (8 * s + r) + 0 ≤ j ∧ j < 8 * (8 * s + r) + 0 + (PM n c s r).length then (PM n c s r).getD (j - (8 * (8 * s + r) + 0)) (-1) else F.2 j := by
      intro j
      show dF (fun p => hs (dwM n c s r) (nI p)) (cdM c r) (8 * (8 * s + r)) 8 0 0 F.2 j = _
      rw [dF_get]
      rfl
    refine ⟨fun q h1 h2 => ?_, fun j hj => ?_, fun j hj => ?_⟩
    · by_cases z : q = r
      · subst z
        rw [a2 _ (fun q' z1 z2 => by omega), f1, if_pos rfl]
        refine ⟨rfl, fun i hi => ?_⟩
        have := hlen q
        rw [a3 _ (fun q' i' z1 z2 z3 => by omega), f2, if_pos (by omega)]
        congr 1
        omega
      · exact a1 q (by omega) (by omega)
    · rw [a2 j (fun q z1 z2 => hj q (by omega) (by omega)), f1, if_neg (hj r (Nat.le_refl r) (by omega))]
    · rw [a3 j (fun q i z1 z2 z3 => hj q i (by omega) (by omega) z3), f2, if_neg]
      intro z
      have := hlen r
      exact hj r (j - 8 * (8 * s + r)) (Nat.le_refl r) (by omega) (by omega) (by omega)
theorem kC_o {v : Int32} {k : Nat} (h : k ≠ 13 ∧ k ≠ 15 ∧ k ≠ 16 ∧ k ≠ 17) : keepC c s v k = c k := by
  funext i
  unfold keepC
  rw [cu_k (by omega), cu_k (by omega), cu_k (by omega), cu_k (by omega)]
theorem kC_13 {v : Int32} {i : Nat} : keepC c s v 13 i = if i = s then upd (upd (c 13 s) 7 (nI 1)) 8 v else c 13 i := by
  unfold keepC
  by_cases z : i = s
  · rw [z, cu_s, if_pos rfl]
  · rw [cu_i z, if_neg z, cu_k (by omega), cu_k (by omega), cu_k (by omega)]
theorem kC_15 {v : Int32} {i : Nat} : keepC c s v 15 i = if i = s + 1 then cp 10 (c 15 (s + 1)) (c 15 0) else c 15 i := by
  unfold keepC
  rw [cu_k (by omega), cu_k (by omega)]
  by_cases z : i = s + 1
  · rw [z, cu_s, if_pos rfl]
  · rw [cu_i z, if_neg z, cu_k (by omega)]
theorem kC_17 {v : Int32} {i : Nat} : keepC c s v 17 i = if i = s + 1 then cp 64 (c 17 (s + 1)) (c 17 0) else c 17 i := by
  unfold keepC
  rw [cu_k (by omega)]
  by_cases z : i = s + 1
  · rw [z, cu_s, if_pos rfl]
  · rw [cu_i z, if_neg z, cu_k (by omega), cu_k (by omega)]
/-- print -/
theorem P_print (hI : Inv n c) (hs0 : s < n.2.2.1) {v : Int32} {g : Fn1} : Inv n (prtC n (cu (keepC (drw n c s) s v) 19 0 g) s v) := by
  have hI0 := hI
  obtain ⟨i1, i2, i3, i4, i5, i6, i7, i8, i9, i10⟩ := hI0
  have hN1 := i2.2.2.2.1
  have hN2 := i2.2.2.2.2.1
  have hN3 := i2.2.2.2.2.2.1
  -- the model's state as it keeps
  have c19 : ∀ k, k ≠ 19 → cu (keepC (drw n c s) s v) 19 0 g k = keepC (drw n c s) s v k := fun k hk => by funext i; exact cu_k hk
  have mk : ∀ k, 18 ≤ k → k ≠ 19 → cu (keepC (drw n c s) s v) 19 0 g k = c k := fun k hk h9 => by rw [c19 k h9, kC_o (by omega), drw_n (by omega) (by omega) (by omega)]
  generalize hK : cu (keepC (drw n c s) s v) 19 0 g = K at *
  have hW : Me c (thC (erC n K s) (nI 0)) := by
    refine Me_t (d := K) (fun k hk _ _ => mk k (by omega) (by omega)) (Me_t (Me_Sc Sc_er) (Me_Sc Sc_th))
  generalize hY : thC (erC n K s) (nI 0) = Y at *
  have hLb : Ag (lbls n c s) (lblM n Y s) := by
    have e1 : lblM n Y s = lblM n (thC (erC n c s) (nI 0)) s := by
      refine lbl_me (fun k hk => ?_)
      rw [← hY, thC_n (by omega), thC_n (by omega)]
      unfold erC
      rw [show K 41 = c 41 from mk 41 (by omega) (by omega), lbl_me (fun k hk => mk k (by omega) (by omega))]
      split
      · funext i
        unfold cM cu
        rw [mk k (by omega) (by omega)]
      · exact mk k (by omega) (by omega)
    rw [e1]
    exact (lb_Ag hI (Sc_t Sc_er Sc_th) hs0).1
  have y13 : ∀ k, k < 18 → Y k = K k := fun k hk => by
    rw [← hY, thC_n (by omega)]
    exact funext (fun i => by
      unfold erC
      split
      · exact congrFun (cM_n (by omega) (by omega)) i
      · rfl)
  have y18 : ∀ j, j ≠ 0 → Y 18 0 j = c 18 0 j := fun j hj => by
    rw [← hY, thC_f hj, ← mk 18 (by omega) (by omega)]
    have : erC n K s 18 = K 18 := by
      unfold erC
      split
      · exact cM_n (by omega) (by omega)
      · rfl
    rw [this]
  have eX : ∀ k, (k ≠ 40 ∧ k ≠ 41 ∧ k ≠ 43 ∧ k ≠ 44 ∧ k ≠ 45 ∧ k ≠ 46 ∧ k ≠ 47) → prtC n K s v k = Y k := by
    intro k z
    unfold prtC kpC
    rw [hY]
    funext i
    rw [cu_k (by omega), cu_k (by omega), cK_n (by omega) (by omega), cu_k (by omega), cM_n (by omega) (by omega)]
  have e : ∀ k, (k ≠ 13 ∧ k ≠ 15 ∧ k ≠ 16 ∧ k ≠ 17 ∧ k ≠ 18 ∧ k ≠ 19 ∧ k ≠ 40 ∧ k ≠ 41 ∧ k ≠ 43 ∧ k ≠ 44 ∧ k ≠ 45 ∧ k ≠ 46 ∧ k ≠ 47) → prtC n K s v k = c k := by
    intro k z
    rw [eX k (by omega)]
    by_cases h : k < 18
    · rw [y13 k h, c19 _ (by omega), kC_o (by omega), drw_n (by omega) (by omega) (by omega)]
    · exact hW k (by omega) (by omega) (by omega)
  have e40 : prtC n K s v 40 0 = upd (c 40 0) s v := by
    unfold prtC
    rw [cu_s, hY]
    unfold kpC
    rw [cu_k (by omega), cK_n (by omega) (by omega), cu_k (by omega), cM_n (by omega) (by omega), hW 40 (by omega) (by omega) (by omega)]
  have e41 : prtC n K s v 41 0 = upd (c 41 0) s (nI 1) := by
    unfold prtC
    rw [cu_k (by omega), hY]
    unfold kpC
    rw [cu_s, hW 41 (by omega) (by omega) (by omega)]
  have e43 : prtC n K s v 43 0 = cpO (10 * s) 10 (c 43 0) (lblM n Y s).1 := by
    unfold prtC
    rw [cu_k (by omega), hY]
    unfold kpC
    rw [cu_k (by omega), cK_n (by omega) (by omega), cu_s, hW 43 (by omega) (by omega) (by omega)]
  have e44 : prtC n K s v 44 0 = (itF (kpR n Y s) n.1 0 (c 44 0, c 45 0)).1 := by
    unfold prtC
    rw [cu_k (by omega), hY]
    unfold kpC
    rw [cu_k (by omega), cK_1, hW 44 (by omega) (by omega) (by omega), hW 45 (by omega) (by omega) (by omega)]
  have e45 : prtC n K s v 45 0 = (itF (kpR n Y s) n.1 0 (c 44 0, c 45 0)).2 := by
    unfold prtC
    rw [cu_k (by omega), hY]
    unfold kpC
    rw [cu_k (by omega), cK_2, hW 44 (by omega) (by omega) (by omega), hW 45 (by omega) (by omega) (by omega)]
  have e18 : ∀ j, j ≠ 0 → prtC n K s v 18 0 j = c 18 0 j := fun j hj => by rw [eX 18 (by omega)]; exact y18 j hj
  have e13 : ∀ i, prtC n K s v 13 i = if i = s then upd (upd (c 13 s) 7 (nI 1)) 8 v else c 13 i := fun i => by
    rw [eX 13 (by omega), y13 13 (by omega), c19 _ (by omega), kC_13, drw_n (by omega) (by omega) (by omega)]
  have e15 : ∀ i, i ≠ 0 → prtC n K s v 15 i = if i = s + 1 then cp 10 (c 15 (s + 1)) (lbls n c s).1 else c 15 i := fun i hi => by
    rw [eX 15 (by omega), y13 15 (by omega), c19 _ (by omega), kC_15, drw_15, drw_15s hi, drw_15s (by omega)]
  have e17 : ∀ i, i ≠ 0 → prtC n K s v 17 i = if i = s + 1 then cp 64 (c 17 (s + 1)) (lins n c s) else c 17 i := fun i hi => by
    rw [eX 17 (by omega), y13 17 (by omega), c19 _ (by omega), kC_17, drw_17, drw_17s hi, drw_17s (by omega)]
  obtain ⟨k1, k2, k3⟩ := kp_get (r0 := 0) (n := n) (c := Y) (s := s) n.1 0 (c 44 0, c 45 0)
  rw [← e44] at k1 k2
  rw [← e45] at k1 k3
  have ePM : ∀ q, PM n Y s q = PM n c s q := fun q => PM_me hW
  simp only [ePM] at k1
  generalize hX : prtC n K s v = X at *
  have eG : GM X = GM c := GM_e (e _ (by omega)) (e _ (by omega)) (e _ (by omega)) (e _ (by omega))
  have eU : ∀ s, UM X s = UM c s := fun s => UM_e (e _ (by omega)) (e _ (by omega)) (e _ (by omega)) (e _ (by omega)) (e _ (by omega)) (e _ (by omega))
  obtain ⟨l1, l2⟩ := lins_get i2 i3 (i6 s hs0).1 (shS_eq hI hs0)
  have jk := (lb_Ag hI Sc_r hs0).2
  refine ⟨?_, ?_, RdC_f i3 (fun r _ => by rw [e 9 (by omega)]) (fun r _ => by rw [e 10 (by omega)]) (e _ (by omega)) (e _ (by omega)) (e _ (by omega)) (e _ (by omega)), DrI_f i4 (e18 _ (by omega)) (by rw [e 9 (by omega)]) (by rw [e 10 (by omega)]) (e _ (by omega)) (e _ (by omega)), NmI_f i5 (e _ (by omega)) eG, ?_, CaI_f i7 (e _ (by omega)) (e _ (by omega)) (e _ (by omega)) (e _ (by omega)) (e _ (by omega)), ?_, ?_, ?_⟩
  · rw [e 9 (by omega)]
    obtain ⟨a1, a2, a3, a4, a5, a6, a7⟩ := i1
    refine ⟨a1, a2, a3, a4, a5, a6, fun i hi => ?_⟩
    have q0 : X 13 i 0 = c 13 i 0 := by
      rw [e13]
      by_cases z : i = s
      · rw [if_pos z, upd_n (by omega), upd_n (by omega), z]
      · rw [if_neg z]
    have := a7 i hi
    unfold scO at this ⊢
    rw [q0]
    refine ⟨this.1, this.2.1, ?_⟩
    rw [e13]
    by_cases z : i = s
    · rw [if_pos z, upd_n (by omega), upd_s]
      decide
    · rw [if_neg z]
      exact this.2.2
  · obtain ⟨m1, m2, m3, m4, m5, m6, m7, m8, m9⟩ := i2
    refine ⟨(e18 _ (by omega)).trans m1, (e18 _ (by omega)).trans m2, (e18 _ (by omega)).trans m3, m4, m5, m6, by rw [e 26 (by omega)]; exact m7, by rw [eG]; exact m8, fun i hi => ?_⟩
    rw [e 34 (by omega), e41]
    refine ⟨(m9 i hi).1, (m9 i hi).2.1, ?_⟩
    by_cases z : i = s
    · rw [z, upd_s]
      decide
    · rw [upd_n z]
      exact (m9 i hi).2.2
  · intro i hi
    obtain ⟨b1, b2, b3, b4⟩ := i6 i hi
    unfold ShC at b1 ⊢
    rw [eU, e13, e41, e40]
    by_cases z : i = s
    · rw [if_pos z, z, upd_s, upd_s]
      refine ⟨fun j hj => ?_, z ▸ b2, ?_, ?_⟩
      · rw [upd_n (by omega), upd_n (by omega)]
        exact z ▸ b1 j hj
      · rw [upd_n (by omega), upd_s]
      · rw [upd_s]
    · rw [if_neg z, upd_n z, upd_n z]
      exact ⟨b1, b2, b3, b4⟩
  · intro i hi hp
    by_cases z : i = s
    · subst z
      refine ⟨fun m hm => ?_, fun m h1 h2 => ?_, fun r hr => ?_⟩
      · rw [e15 (i + 1) (by omega), if_pos rfl, cp_lt hm, e43]
        unfold cpO
        rw [if_pos (by omega), Nat.add_sub_cancel_left]
        exact (hLb m hm).1
      · rw [e15 (i + 1) (by omega), if_pos rfl, cp_lt h2]
        exact (jk.2.2.2 m h1 h2).1
      · have q17 : ∀ j, j < 8 → X 17 (i + 1) (r * 8 + j) = lins n c i (r * 8 + j) := fun j hj => by
          rw [e17 (i + 1) (by omega), if_pos rfl, cp_lt (by omega)]
        by_cases hrN : r < n.1
        · obtain ⟨t1, t2⟩ := k1 r (Nat.zero_le r) (by omega)
          have hl8 := PM_len (n := n) (c := c) (s := i) (r := r)
          refine ⟨(PM n c i r).length, hl8, t1, fun j hj => ?_, fun j h1 h2 => ?_⟩
          · rw [q17 j (by omega), l1 r j (by omega) hrN, t2 j hj]
            exact ⟨rfl, PM_cd i2 i3 hrN j hj⟩
          · rw [q17 j h2, l1 r j h2 hrN, gtD_no h1]
        · refine ⟨0, by omega, ?_, fun j hj => by omega, fun j _ h2 => ?_⟩
          · rw [k2 _ (fun q _ h2 => by omega)]
            exact i9 i (by omega) r (by omega) hr
          · rw [q17 j h2, l2 r j h2 (by omega) hr]
    · rw [e13, if_neg z] at hp
      obtain ⟨p1, p2, p3⟩ := i8 i hi hp
      refine ⟨fun m hm => ?_, fun m h1 h2 => ?_, fun r hr => ?_⟩
      · rw [e15 (i + 1) (by omega), if_neg (by omega), e43]
        unfold cpO
        rw [if_neg (by omega)]
        exact p1 m hm
      · rw [e15 (i + 1) (by omega), if_neg (by omega)]
        exact p2 m h1 h2
      · obtain ⟨k, t1, t2, t3, t4⟩ := p3 r hr
        refine ⟨k, t1, ?_, fun j hj => ?_, fun j h1 h2 => ?_⟩
        · rw [k2 _ (fun q _ h2 => by omega)]
          exact t2
        · rw [e17 (i + 1) (by omega), if_neg (by omega), k3 _ (fun q j' _ h2 h3 => by omega)]
          exact t3 j hj
        · rw [e17 (i + 1) (by omega), if_neg (by omega)]
          exact t4 j h1 h2
  · intro i hi r h1 h2
    rw [k2 _ (fun q _ h3 => by omega)]
    exact i9 i hi r h1 h2
  · intro i h1 h2
    rw [e41, e40, upd_n (by omega), upd_n (by omega)]
    exact i10 i h1 h2
end
