/-! what holds between calls -/
def DrI (n : Nn) (c : Cc) : Prop := ∃ dn, dn ≤ 8 ∧ c 18 0 3 = nI dn ∧ c 9 n.1 2 = nI dn ∧ ∀ p, p < dn → ∃ x y, x < 40 ∧ y < 40 ∧ c 21 0 p = nI x ∧ c 22 0 p = nI y ∧ c 10 n.1 p = nI (y * 40 + x)
def NmI (n : Nn) (c : Cc) : Prop := ∀ m, m < n.2.1 → ∀ j, j < 4 → c 12 m j = GM c m j
def ShI (n : Nn) (c : Cc) : Prop := ∀ s, s < n.2.2.1 → ShC c s ∧ UmG (UM c s) ∧ c 13 s 7 = c 41 0 s ∧ c 13 s 8 = c 40 0 s
def CaI (n : Nn) (c : Cc) : Prop := ∀ r, r < n.1 → ∀ j, j < 4 → c 11 r j = lfM c n.1 r (nI j)
def PrI (n : Nn) (c : Cc) : Prop := ∀ s, s < n.2.2.1 → prB (c 13 s 7) = true → (∀ m, m < 10 → c 15 (s + 1) m = c 43 0 (10 * s + m)) ∧ (∀ m, n.2.1 ≤ m → m < 10 → c 15 (s + 1) m = -1) ∧ ∀ r, r < 8 → OldR c s r
def ZeI (n : Nn) (c : Cc) : Prop := ∀ s, s < 6 → ∀ r, n.1 ≤ r → r < 8 → c 44 0 (8 * s + r) = nI 0
def UsI (n : Nn) (c : Cc) : Prop := ∀ s, n.2.2.1 ≤ s → s < 6 → c 41 0 s = nI 0 ∧ c 40 0 s = nI 0
def Inv (n : Nn) (c : Cc) : Prop := CI n (c 9) (c 13) ∧ MI n c ∧ RdC n c ∧ DrI n c ∧ NmI n c ∧ ShI n c ∧ CaI n c ∧ PrI n c ∧ ZeI n c ∧ UsI n c
/-- but for what is drawn anew for each question -/
def Sc (c d : Cc) : Prop := (∀ k, k ≠ 15 → k ≠ 16 → k ≠ 17 → k ≠ 18 → k ≠ 46 → k ≠ 47 → k ≠ 19 → d k = c k) ∧ (∀ i, i ≠ 0 → d 15 i = c 15 i ∧ d 16 i = c 16 i ∧ d 17 i = c 17 i) ∧ (∀ j, j ≠ 0 → d 18 0 j = c 18 0 j)
theorem Sc_r {c : Cc} : Sc c c := ⟨fun _ _ _ _ _ _ _ _ => rfl, fun _ _ => ⟨rfl, rfl, rfl⟩, fun _ _ => rfl⟩
theorem Sc_t {c d e : Cc} (h : Sc c d) (g : Sc d e) : Sc c e := ⟨fun k a1 a2 a3 a4 a5 a6 a7 => (g.1 k a1 a2 a3 a4 a5 a6 a7).trans (h.1 k a1 a2 a3 a4 a5 a6 a7), fun i hi => ⟨(g.2.1 i hi).1.trans (h.2.1 i hi).1, (g.2.1 i hi).2.1.trans (h.2.1 i hi).2.1, (g.2.1 i hi).2.2.trans (h.2.1 i hi).2.2⟩, fun j hj => (g.2.2 j hj).trans (h.2.2 j hj)⟩
theorem Sc_y {c d : Cc} (h : Sc c d) : Sc d c := ⟨fun k a1 a2 a3 a4 a5 a6 a7 => (h.1 k a1 a2 a3 a4 a5 a6 a7).symm, fun i hi => ⟨(h.2.1 i hi).1.symm, (h.2.1 i hi).2.1.symm, (h.2.1 i hi).2.2.symm⟩, fun j hj => (h.2.2 j hj).symm⟩
theorem Sc_th {c : Cc} {v : Int32} : Sc c (thC c v) := ⟨fun k _ _ _ a4 _ _ _ => thC_n a4, fun i _ => ⟨congrFun (thC_n (by omega)) i, congrFun (thC_n (by omega)) i, congrFun (thC_n (by omega)) i⟩, fun j hj => thC_f hj⟩
theorem Sc_cM {c : Cc} {f : S2} : Sc c (cM c f) := ⟨fun k _ _ _ _ a5 a6 _ => cM_n a5 a6, fun i _ => ⟨congrFun (cM_n (by omega) (by omega)) i, congrFun (cM_n (by omega) (by omega)) i, congrFun (cM_n (by omega) (by omega)) i⟩, fun j _ => congrFun (congrFun (cM_n (by omega) (by omega)) 0) j⟩
theorem Sc_cL {c : Cc} {f : S2} : Sc c (cL c 0 f) := ⟨fun k a1 a2 _ _ _ _ _ => cL_n a1 a2, fun i hi => ⟨(cu_i hi).trans (cu_k (by omega)), (cu_k (by omega)).trans (cu_i hi), congrFun (cL_n (by omega) (by omega)) i⟩, fun j _ => congrFun (congrFun (cL_n (by omega) (by omega)) 0) j⟩
theorem Sc_dr {n : Nn} {c : Cc} {s : Nat} : Sc c (drw n c s) := ⟨fun k a1 a2 a3 _ _ _ _ => drw_n a1 a2 a3, fun i hi => ⟨drw_15s hi, drw_16s hi, drw_17s hi⟩, fun j _ => congrFun (congrFun (drw_n (by omega) (by omega) (by omega)) 0) j⟩
theorem Sc_er {n : Nn} {c : Cc} {s : Nat} : Sc c (erC n c s) := by
  unfold erC
  split
  · exact Sc_cM
  · exact Sc_r
theorem Sc_sw {n : Nn} : ∀ {d s : Nat} {p : Cc × Int32}, Sc p.1 (itF (swF n) d s p).1
  | 0, s, p => Sc_r
  | d + 1, s, p => Sc_t Sc_dr (Sc_sw (p := swF n s p))
theorem Sc_wr {n : Nn} : ∀ {d s : Nat} {p : Cc × Int32}, Sc p.1 (itF (swM n) d s p).1
  | 0, s, p => Sc_r
  | d + 1, s, p => Sc_t Sc_er (Sc_wr (p := swM n s p))
section
variable {n : Nn} {c d : Cc} {s : Nat}
theorem Sc_GM (h : Sc c d) : GM d = GM c := GM_e (h.1 29 (by omega) (by omega) (by omega) (by omega) (by omega) (by omega) (by omega)) (h.1 30 (by omega) (by omega) (by omega) (by omega) (by omega) (by omega) (by omega)) (h.1 31 (by omega) (by omega) (by omega) (by omega) (by omega) (by omega) (by omega)) (h.1 32 (by omega) (by omega) (by omega) (by omega) (by omega) (by omega) (by omega))
theorem Sc_UM (h : Sc c d) : UM d s = UM c s := UM_e (h.1 34 (by omega) (by omega) (by omega) (by omega) (by omega) (by omega) (by omega)) (h.1 35 (by omega) (by omega) (by omega) (by omega) (by omega) (by omega) (by omega)) (h.1 36 (by omega) (by omega) (by omega) (by omega) (by omega) (by omega) (by omega)) (h.1 37 (by omega) (by omega) (by omega) (by omega) (by omega) (by omega) (by omega)) (h.1 38 (by omega) (by omega) (by omega) (by omega) (by omega) (by omega) (by omega)) (h.1 39 (by omega) (by omega) (by omega) (by omega) (by omega) (by omega) (by omega))
theorem Sc_k (h : Sc c d) {k : Nat} (hk : k ≠ 15 ∧ k ≠ 16 ∧ k ≠ 17 ∧ k ≠ 18 ∧ k ≠ 46 ∧ k ≠ 47 ∧ k ≠ 19) : d k = c k := h.1 k hk.1 hk.2.1 hk.2.2.1 hk.2.2.2.1 hk.2.2.2.2.1 hk.2.2.2.2.2.1 hk.2.2.2.2.2.2
theorem Inv_Sc (hI : Inv n c) (h : Sc c d) : Inv n d := by
  obtain ⟨i1, i2, i3, i4, i5, i6, i7, i8, i9, i10⟩ := hI
  have e := @Sc_k c d h
  refine ⟨?_, ?_, ?_, ?_, ?_, ?_, ?_, ?_, ?_, ?_⟩
  · rw [e (k := 9) (by omega), e (k := 13) (by omega)]; exact i1
  · exact MI_e i2 (h.2.2 8 (by omega)) (h.2.2 13 (by omega)) (h.2.2 22 (by omega)) (e (by omega)) (e (by omega)) (e (by omega)) (e (by omega)) (e (by omega)) (e (by omega)) (e (by omega))
  · unfold RdC
    rw [e (k := 9) (by omega), e (k := 10) (by omega), e (k := 24) (by omega), e (k := 25) (by omega), e (k := 26) (by omega), e (k := 27) (by omega)]
    exact i3
  · unfold DrI
    rw [h.2.2 3 (by omega), e (k := 9) (by omega), e (k := 10) (by omega), e (k := 21) (by omega), e (k := 22) (by omega)]
    exact i4
  · unfold NmI
    rw [Sc_GM h, e (k := 12) (by omega)]
    exact i5
  · intro s hs'
    obtain ⟨a1, a2, a3, a4⟩ := i6 s hs'
    unfold ShC
    rw [Sc_UM h, e (k := 13) (by omega), e (k := 40) (by omega), e (k := 41) (by omega)]
    exact ⟨a1, a2, a3, a4⟩
  · unfold CaI lfM
    rw [e (k := 11) (by omega), e (k := 24) (by omega), e (k := 25) (by omega), e (k := 26) (by omega), e (k := 27) (by omega)]
    exact i7
  · intro s hs' hp
    rw [e (k := 13) (by omega)] at hp
    have := i8 s hs' hp
    unfold OldR
    rw [(h.2.1 (s + 1) (by omega)).1, (h.2.1 (s + 1) (by omega)).2.2, e (k := 43) (by omega), e (k := 44) (by omega), e (k := 45) (by omega)]
    exact this
  · unfold ZeI
    rw [e (k := 44) (by omega)]
    exact i9
  · unfold UsI
    rw [e (k := 40) (by omega), e (k := 41) (by omega)]
    exact i10
theorem shS_eq (hI : Inv n c) (hs' : s < n.2.2.1) : ∀ r, r < n.1 → shS c s r = lfM c n.1 r (c 34 0 s) := by
  intro r hr
  obtain ⟨i1, i2, i3, i4, i5, i6, i7, i8, i9, i10⟩ := hI
  obtain ⟨a1, a2, a3⟩ := i2.2.2.2.2.2.2.2.2 s hs'
  have e : c 13 s 0 = c 34 0 s := (i6 s hs').1 0 (by omega)
  unfold shS
  rw [e, a1, rdA_in (show szN (c 34 0) s < 4 by omega) (by omega), i7 r hr _ (by omega)]
theorem lb_Ag (hI : Inv n c) (h : Sc c d) (hs' : s < n.2.2.1) : Ag (lbls n c s) (lblM n d s) ∧ Jk n.2.1 (GM c) (szN (c 34 0) s) (lbls n c s) := by
  obtain ⟨i1, i2, i3, i4, i5, i6, i7, i8, i9, i10⟩ := hI
  have hsc := (i2.2.2.2.2.2.2.2.2 s hs').2.1
  have e : scO (c 13) s = szN (c 34 0) s := by
    unfold scO szN
    rw [show c 13 s 0 = c 34 0 s from (i6 s hs').1 0 (by omega)]
  unfold lbls lblM
  rw [e, Sc_GM h, Sc_UM h, Sc_k h (k := 34) (by omega), lab_cong (G' := GM c) (u' := UM c s) (fun m hm j hj => i5 m hm j hj) (fun j hj => (i6 s hs').1 j hj)]
  exact lab_A i2.2.2.2.2.1 i2.2.2.2.2.2.2.2.1 (i6 s hs').2.1 hsc
theorem lb_cc (hI : Inv n c) (h : Sc c d) (hs' : s < n.2.2.1) : Ag (lbls n c s) (lbls n d s) := by
  have a := (lb_Ag hI h hs').1
  have b := (lb_Ag (Inv_Sc hI h) Sc_r hs').1
  exact fun j hj => ⟨(a j hj).1.trans (b j hj).1.symm, (a j hj).2.trans (b j hj).2.symm⟩
theorem PM_Sc (h : Sc c d) {r : Nat} : PM n d s r = PM n c s r := by
  unfold PM cdM dwM lfM
  rw [Sc_k h (k := 24) (by omega), Sc_k h (k := 25) (by omega), Sc_k h (k := 26) (by omega), Sc_k h (k := 27) (by omega), Sc_k h (k := 34) (by omega), Sc_k h (k := 35) (by omega), Sc_k h (k := 36) (by omega), Sc_k h (k := 37) (by omega), Sc_k h (k := 38) (by omega)]
theorem lk_Sc (h : Sc c d) {r : Nat} : lkM n d s r = lkM n c s r := by
  unfold lkM cdM dwM lfM
  rw [Sc_k h (k := 24) (by omega), Sc_k h (k := 25) (by omega), Sc_k h (k := 26) (by omega), Sc_k h (k := 27) (by omega), Sc_k h (k := 34) (by omega), Sc_k h (k := 35) (by omega), Sc_k h (k := 36) (by omega), Sc_k h (k := 37) (by omega), Sc_k h (k := 38) (by omega), Sc_k h (k := 44) (by omega), Sc_k h (k := 45) (by omega)]
/-- errata agree -/
theorem err_eq (hI : Inv n c) (h : Sc c d) (hs' : s < n.2.2.1) : errC n c s = errM n d s := by
  have hI0 := hI
  obtain ⟨i1, i2, i3, i4, i5, i6, i7, i8, i9, i10⟩ := hI0
  have hN1 := i2.2.2.2.1
  have hN2 := i2.2.2.2.2.1
  have hN3 := i2.2.2.2.2.2.1
  have e13 : c 13 s 7 = c 41 0 s := (i6 s hs').2.2.1
  unfold errC errM
  rw [Sc_k h (k := 41) (by omega), ← e13]
  by_cases hp : prB (c 13 s 7) = true
  · rw [if_pos hp, if_pos hp]
    obtain ⟨p1, p2, p3⟩ := i8 s hs' hp
    obtain ⟨ag, jk⟩ := lb_Ag hI h hs'
    obtain ⟨l1, l2⟩ := lins_get i2 i3 (i6 s hs').1 (shS_eq hI hs')
    unfold diffs
    have q1 : cntI (fun j => !decide (c 15 (s + 1) j = (lbls n c s).1 j)) 10 0 (nI 0) = cntI (fun m => !decide ((lblM n d s).1 m = d 43 0 (10 * s + m))) n.2.1 0 (nI 0) := by
      have t := cntI_more (f := fun j => !decide (c 15 (s + 1) j = (lbls n c s).1 j)) (e := 10 - n.2.1) (d := n.2.1) (j := 0) (a := nI 0) (fun q a1 a2 => by
        rw [p2 q (by omega) (by omega), (jk.2.2.2 q (by omega) (by omega)).1]
        rfl)
      rw [show n.2.1 + (10 - n.2.1) = 10 by omega] at t
      rw [t]
      refine cntI_c (fun q _ hq => ?_)
      rw [p1 q (by omega), (ag q (by omega)).1, Sc_k h (k := 43) (by omega)]
      by_cases z : (lblM n d s).1 q = c 43 0 (10 * s + q)
      · rw [decide_eq_true z, decide_eq_true z.symm]
      · rw [decide_eq_false z, decide_eq_false (fun y => z y.symm)]
    rw [q1]
    rw [show (8 : Nat) = n.1 + (8 - n.1) by omega]
    rw [cntI_more (fun q a1 a2 => ?_)]
    · refine cntI_c (fun q _ hq => ?_)
      rw [lk_Sc h]
      have := like_eq (s := s) i2 i3 (show q < n.1 by omega) (p3 q (by omega)) (f := lins n c s) (fun i hi => l1 q i hi (by omega))
      rw [show n.1 + (8 - n.1) = 8 by omega]
      exact this
    · rw [show n.1 + (8 - n.1) = 8 by omega, ← Bool.not_eq_true, anyB_if0]
      rintro ⟨j, hj, hx⟩
      obtain ⟨k, k1, k2, k3, k4⟩ := p3 q (by omega)
      have k0 : k = 0 := by
        rw [i9 s (by omega) q (by omega) (by omega)] at k2
        have := (nI_eq (show 0 < 2 ^ 31 by decide) (show k < 2 ^ 31 by omega)).mp k2
        omega
      rw [k4 j (by omega) hj, l2 q j hj (by omega) (by omega)] at hx
      simp at hx
  · rw [if_neg hp, if_neg hp]
theorem swp_eq (e : Cc) : ∀ (k s : Nat) (c d : Cc) (a : Int32), Inv n e → Sc e c → Sc e d → s + k = n.2.2.1 → (itF (swF n) k s (c, a)).2 = (itF (swM n) k s (d, a)).2
  | 0, s, c, d, a, hI, h1, h2, hj => rfl
  | k + 1, s, c, d, a, hI, h1, h2, hj => by
    rw [itF_s, itF_s]
    unfold swF swM
    have e1 := err_eq (Inv_Sc hI h1) (Sc_t (Sc_y h1) h2) (show s < n.2.2.1 by omega)
    simp only [e1]
    exact swp_eq e k (s + 1) _ _ _ hI (Sc_t h1 Sc_dr) (Sc_t h2 Sc_er) (by omega)
theorem sweep_eq (hI : Inv n c) (h : Sc c d) : (sweC n c).2 = (wrM n d).2 := swp_eq c n.2.2.1 0 c d (nI 0) hI Sc_r h (Nat.zero_add _)
theorem Sc_19 {f : Fn1} : Sc c (cu c 19 0 f) := ⟨fun k _ _ _ _ _ _ a7 => by funext i; exact cu_k a7, fun i _ => ⟨cu_k (by omega), cu_k (by omega), cu_k (by omega)⟩, fun j _ => by rw [cu_k (by omega)]⟩
end
