/-! what holds between the law's turns -/
def IR (n : Nn) (A B C : Fn2) (F1 F2 : Fn1) : Prop := (∀ r, r < n.1 → (∃ k, k ≤ 3 ∧ A r 3 = nI k) ∧ F1 r = A r 2 ∧ F2 r = A r 3) ∧ (∀ r, r ≤ n.1 → ∀ p, p < szO A r → Pl (B r p)) ∧ ∀ r, r < n.1 → ∀ j, j < 4 → C r j = leftC A B n.1 r (nI j)
def naV (L R X Y : Nat) : Nat := 100000 * R + 10000 * L + 40 * Y + X
def IN (N : Nat) (G : Fn2) (F : Fn1) : Prop := ∀ m, m < N → ∃ L R X Y, NmD G m L R X Y ∧ F m = nI (naV L R X Y)
def IS (S : Nat) (U : Fn2) (F : Fn1) : Prop := ∀ s, s < S → (∃ sc a b r t g, sc ≤ 3 ∧ UmD (U s) a b r t g ∧ U s 0 = nI sc) ∧ (∃ k, k ≤ 1000 ∧ U s 8 = nI k) ∧ ∀ j, j < 6 → F (6 * s + j) = U s j
def Inv (n : Nn) (c : Cc) : Prop := CI n (c 9) (c 13) ∧ IR n (c 9) (c 10) (c 11) (c 18 0) (c 19 0) ∧ IN n.2.1 (c 12) (c 20 0) ∧ IS n.2.2.1 (c 13) (c 21 0)
section
variable {n : Nn} {c d X : Cc} {N S : Nat} {A B C A' B' C' G G' U U' : Fn2} {F F' F1 F2 : Fn1} {s : Int32}
theorem Inv_g (hI : Inv n c) (h : ∀ k, k = 9 ∨ k = 10 ∨ k = 11 ∨ k = 12 ∨ k = 13 ∨ k = 18 ∨ k = 19 ∨ k = 20 ∨ k = 21 → d k = c k) : Inv n d := by
  unfold Inv
  rw [h 9 (by omega), h 10 (by omega), h 11 (by omega), h 12 (by omega), h 13 (by omega), h 18 (by omega), h 19 (by omega), h 20 (by omega), h 21 (by omega)]
  exact hI
theorem Inv_q (hI : Inv n c) (h : Sq c d) : Inv n d := Inv_g hI (fun k hk => Sq_k h (by omega))
theorem hpA_c {o : Nat} {pl T : Int32} (h1 : A o = A' o) (h2 : B o = B' o) : hpA A B o pl T = hpA A' B' o pl T := by
  unfold hpA szO
  rw [h1, h2]
theorem metC_c {i : Nat} {pl : Int32} (h1 : ∀ o, o < N → A o = A' o) (h2 : ∀ o, o < N → B o = B' o) : metC A B N i pl s = metC A' B' N i pl s := by
  unfold metC
  refine anyB_c0 (fun o ho => ?_)
  unfold allP
  rw [hpA_c (h1 o ho) (h2 o ho), h1 o ho]
/-- what is left hangs on the roads alone -/
theorem leftC_c {i : Nat} (hi : i < N) (h1 : ∀ o, o < N → A o = A' o) (h2 : ∀ o, o < N → B o = B' o) : leftC A B N i s = leftC A' B' N i s := by
  have e : (fun T => goesC A B N i T s) = (fun T => goesC A' B' N i T s) := by
    funext T
    unfold goesC szO
    rw [h1 i hi, h2 i hi]
    congr 1
    funext p
    exact metC_c h1 h2
  unfold leftC
  rw [e]
  unfold allP
  rw [h1 i hi]
theorem IN_up (h : IN S G F) {m0 L R X Y : Nat} (h1 : ∀ m, m < N → m ≠ m0 → m < S ∧ G' m = G m ∧ F' m = F m) (h2 : NmD G' m0 L R X Y) (h3 : F' m0 = nI (naV L R X Y)) : IN N G' F' := by
  intro m hm
  by_cases z : m = m0
  · subst z
    exact ⟨L, R, X, Y, h2, h3⟩
  · obtain ⟨a1, a2, a3⟩ := h1 m hm z
    obtain ⟨L', R', X', Y', b1, b2⟩ := h m a1
    refine ⟨L', R', X', Y', ?_, by rw [a3]; exact b2⟩
    unfold NmD
    rw [a2]
    exact b1
theorem IS_up (h : IS S U F) {s0 : Nat} (h1 : ∀ t, t < N → t ≠ s0 → t < S ∧ U' t = U t ∧ ∀ j, j < 6 → F' (6 * t + j) = F (6 * t + j)) (h2 : ∃ sc a b r t g, sc ≤ 3 ∧ UmD (U' s0) a b r t g ∧ U' s0 0 = nI sc) (h3 : ∃ k, k ≤ 1000 ∧ U' s0 8 = nI k) (h4 : ∀ j, j < 6 → F' (6 * s0 + j) = U' s0 j) : IS N U' F' := by
  intro t ht
  by_cases z : t = s0
  · subst z
    exact ⟨h2, h3, h4⟩
  · obtain ⟨a1, a2, a3⟩ := h1 t ht z
    obtain ⟨b1, b2, b3⟩ := h t a1
    rw [a2]
    exact ⟨b1, b2, fun j hj => (a3 j hj).trans (b3 j hj)⟩
theorem Inv_0 : Inv n0 c0 := by
  refine ⟨⟨⟨by decide, by decide⟩, by decide, by decide, rfl, fun i hi => ?_, fun i hi => absurd hi (Nat.not_lt_zero i), fun s hs' => absurd hs' (Nat.not_lt_zero s)⟩, ⟨fun r hr => absurd hr (Nat.not_lt_zero r), fun r hr p hp => ?_, fun r hr => absurd hr (Nat.not_lt_zero r)⟩, fun m hm => absurd hm (Nat.not_lt_zero m), fun s hs' => absurd hs' (Nat.not_lt_zero s)⟩
  · have hi : i < 1 := hi
    have e : i = 0 := by omega
    subst e
    exact ⟨by decide, by decide⟩
  · have e : szO (c0 9) r = 0 := by
      show (0 : Int32).toNatClampNeg = 0
      decide
    rw [e] at hp
    exact absurd hp (Nat.not_lt_zero p)
/-- draft -/
theorem P_draft (hI : Inv n c) (hz : szO (c 9) n.1 < 8) {v : Int32} (hv : Pl v) : Inv n (drfC n c v) := by
  obtain ⟨i1, ⟨r1, r2, r3⟩, i3, i4⟩ := hI
  have ek : ∀ k, k ≠ 9 → k ≠ 10 → drfC n c v k = c k := by
    intro k z1 z2
    funext i
    unfold drfC
    rw [cu_k z1, cu_k z2]
  have e9 : ∀ i, drfC n c v 9 i = if i = n.1 then upd (c 9 n.1) 2 (nI (szO (c 9) n.1 + 1)) else c 9 i := by
    intro i
    unfold drfC
    by_cases z : i = n.1
    · rw [z, cu_s, if_pos rfl]
    · rw [cu_i z, cu_k (by omega), if_neg z]
  have e10 : ∀ i, drfC n c v 10 i = if i = n.1 then upd (c 10 n.1) (szO (c 9) n.1) v else c 10 i := by
    intro i
    unfold drfC
    rw [cu_k (by omega)]
    by_cases z : i = n.1
    · rw [z, cu_s, if_pos rfl]
    · rw [cu_i z, if_neg z]
  have s9 : ∀ i, szO (drfC n c v 9) i = if i = n.1 then szO (c 9) n.1 + 1 else szO (c 9) i := by
    intro i
    unfold szO
    rw [e9]
    by_cases z : i = n.1
    · have hz' : (c 9 n.1 2).toNatClampNeg < 8 := hz
      rw [if_pos z, if_pos z, upd_s, nI_clamp (by omega)]
      rfl
    · rw [if_neg z, if_neg z]
  unfold Inv
  rw [ek 11 (by omega) (by omega), ek 12 (by omega) (by omega), ek 13 (by omega) (by omega), ek 18 (by omega) (by omega), ek 19 (by omega) (by omega), ek 20 (by omega) (by omega), ek 21 (by omega) (by omega)]
  refine ⟨?_, ⟨fun r hr => ?_, fun r hr p hp => ?_, fun r hr j hj => ?_⟩, i3, i4⟩
  · obtain ⟨a1, a2, a3, a4, a5, a6, a7⟩ := i1
    refine ⟨a1, a2, a3, a4, fun i hi => ?_, fun i hi => ?_, a7⟩
    · rw [s9, e9]
      by_cases z : i = n.1
      · rw [if_pos z, if_pos z, upd_s]
        exact ⟨rfl, by omega⟩
      · rw [if_neg z, if_neg z]
        exact a5 i hi
    · rw [s9, if_neg (by omega)]
      exact a6 i hi
  · rw [e9, if_neg (by omega)]
    exact r1 r hr
  · rw [s9] at hp
    rw [e10]
    by_cases z : r = n.1
    · rw [if_pos z] at hp ⊢
      by_cases y : p = szO (c 9) n.1
      · rw [y, upd_s]
        exact hv
      · rw [upd_n y]
        exact r2 n.1 (Nat.le_refl _) p (by omega)
    · rw [if_neg z] at hp ⊢
      exact r2 r hr p hp
  · rw [r3 r hr j hj]
    exact leftC_c hr (fun o ho => by rw [e9, if_neg (by omega)]) (fun o ho => by rw [e10, if_neg (by omega)])
/-- move -/
theorem P_move (hI : Inv n c) {j p : Nat} (hj : j < n.1) {v : Int32} (hv : Pl v) : Inv n (movC n c j p v) := by
  obtain ⟨i1, ⟨r1, r2, r3⟩, i3, i4⟩ := hI
  have ek : ∀ k, k ≠ 10 → k ≠ 11 → movC n c j p v k = c k := by
    intro k z1 z2
    unfold movC genC
    rw [cw_n z2]
    funext i
    exact cu_k z1
  have e10 : ∀ i, movC n c j p v 10 i = if i = j then upd (c 10 j) p v else c 10 i := by
    intro i
    unfold movC genC
    rw [cw_n (by omega)]
    by_cases z : i = j
    · rw [z, cu_s, if_pos rfl]
    · rw [cu_i z, if_neg z]
  have e11 : ∀ r, r < n.1 → ∀ q, q < 4 → movC n c j p v 11 r q = leftC (movC n c j p v 9) (movC n c j p v 10) n.1 r (nI q) := by
    intro r hr q hq
    have a9 : movC n c j p v 9 = (cu c 10 j (upd (c 10 j) p v)) 9 := by unfold movC genC; rw [cw_n (by omega)]
    have a10 : movC n c j p v 10 = (cu c 10 j (upd (c 10 j) p v)) 10 := by unfold movC genC; rw [cw_n (by omega)]
    rw [a9, a10]
    unfold movC genC
    rw [cw_s]
    unfold genR
    rw [if_pos hr, cp_lt hq]
    rfl
  unfold Inv
  rw [ek 12 (by omega) (by omega), ek 13 (by omega) (by omega), ek 18 (by omega) (by omega), ek 19 (by omega) (by omega), ek 20 (by omega) (by omega), ek 21 (by omega) (by omega)]
  refine ⟨by rw [ek 9 (by omega) (by omega)]; exact i1, ⟨fun r hr => by rw [ek 9 (by omega) (by omega)]; exact r1 r hr, fun r hr q hq => ?_, e11⟩, i3, i4⟩
  rw [ek 9 (by omega) (by omega)] at hq
  rw [e10]
  by_cases z : r = j
  · rw [if_pos z]
    by_cases y : q = p
    · rw [y, upd_s]
      exact hv
    · rw [upd_n y, ← z]
      exact r2 r hr q hq
  · rw [if_neg z]
    exact r2 r hr q hq
/-- road -/
theorem P_road (hI : Inv n c) (h8 : n.1 < 8) (h2 : 2 ≤ szO (c 9) n.1) {k : Nat} (hk : k ≤ 3) : Inv (n.1 + 1, n.2.1, n.2.2.1, n.2.2.2 + 1) (cu (cu (roadC n c (nI k)) 18 0 (upd (c 18 0) n.1 (nI (szO (c 9) n.1)))) 19 0 (upd (c 19 0) n.1 (nI k))) := by
  obtain ⟨i1, ⟨r1, r2, r3⟩, i3, i4⟩ := hI
  obtain ⟨a1, a2, a3, a4, a5, a6, a7⟩ := i1
  have ek : ∀ q, q ≠ 9 → q ≠ 10 → q ≠ 11 → roadC n c (nI k) q = c q := by
    intro q z1 z2 z3
    funext i
    unfold roadC rdC genC
    rw [cu_k z3, cu_k z2, cu_k z1, cw_n z3, cu_k z1]
  have e9 : ∀ i, i < n.2.2.2 → roadC n c (nI k) 9 i = cu c 9 n.1 (upd (c 9 n.1) 3 (nI k)) 9 i := by
    intro i hi
    unfold roadC rdC genC
    rw [cu_k (by omega), cu_k (by omega), cu_i (by omega), cw_n (by omega)]
  have e9M : roadC n c (nI k) 9 n.2.2.2 = zNf := by
    unfold roadC rdC genC
    rw [cu_k (by omega), cu_k (by omega), cu_s]
  have e10 : ∀ i, i < n.2.2.2 → roadC n c (nI k) 10 i = c 10 i := by
    intro i hi
    unfold roadC rdC genC
    rw [cu_k (by omega), cu_i (by omega), cu_k (by omega), cw_n (by omega), cu_k (by omega)]
  have e11 : ∀ i, i < n.2.2.2 → ∀ q, q < 4 → roadC n c (nI k) 11 i q = leftC (cu c 9 n.1 (upd (c 9 n.1) 3 (nI k)) 9) (cu c 9 n.1 (upd (c 9 n.1) 3 (nI k)) 10) (n.1 + 1) i (nI q) := by
    intro i hi q hq
    unfold roadC rdC genC
    rw [cu_i (by omega), cu_k (by omega), cu_k (by omega), cw_s]
    unfold genR
    rw [if_pos (show i < n.1 + 1 by omega), cp_lt hq]
    rfl
  have c9 : ∀ i, cu c 9 n.1 (upd (c 9 n.1) 3 (nI k)) 9 i = if i = n.1 then upd (c 9 n.1) 3 (nI k) else c 9 i := by
    intro i
    by_cases z : i = n.1
    · rw [z, cu_s, if_pos rfl]
    · rw [cu_i z, if_neg z]
  have z9 : ∀ i, i < n.2.2.2 → roadC n c (nI k) 9 i 2 = c 9 i 2 := by
    intro i hi
    rw [e9 i hi, c9]
    by_cases z : i = n.1
    · rw [if_pos z, upd_n (by omega), z]
    · rw [if_neg z]
  have s9 : ∀ i, i < n.2.2.2 → szO (roadC n c (nI k) 9) i = szO (c 9) i := by
    intro i hi
    unfold szO
    rw [z9 i hi]
  have s9M : szO (roadC n c (nI k) 9) n.2.2.2 = 0 := by
    unfold szO
    rw [e9M]
    decide
  have f : ∀ q, q ≠ 18 → q ≠ 19 → (cu (cu (roadC n c (nI k)) 18 0 (upd (c 18 0) n.1 (nI (szO (c 9) n.1)))) 19 0 (upd (c 19 0) n.1 (nI k))) q = roadC n c (nI k) q := by
    intro q z1 z2
    funext i
    rw [cu_k z2, cu_k z1]
  have f18 : (cu (cu (roadC n c (nI k)) 18 0 (upd (c 18 0) n.1 (nI (szO (c 9) n.1)))) 19 0 (upd (c 19 0) n.1 (nI k))) 18 0 = upd (c 18 0) n.1 (nI (szO (c 9) n.1)) := by
    rw [cu_k (by omega), cu_s]
  have f19 : (cu (cu (roadC n c (nI k)) 18 0 (upd (c 18 0) n.1 (nI (szO (c 9) n.1)))) 19 0 (upd (c 19 0) n.1 (nI k))) 19 0 = upd (c 19 0) n.1 (nI k) := cu_s
  unfold Inv
  rw [f18, f19, f 9 (by omega) (by omega), f 10 (by omega) (by omega), f 11 (by omega) (by omega), f 12 (by omega) (by omega), f 13 (by omega) (by omega), f 20 (by omega) (by omega), f 21 (by omega) (by omega), ek 12 (by omega) (by omega) (by omega), ek 13 (by omega) (by omega) (by omega), ek 20 (by omega) (by omega) (by omega), ek 21 (by omega) (by omega) (by omega)]
  refine ⟨⟨⟨by show n.1 + 1 ≤ 8; omega, by show n.1 + 1 ≤ n.2.2.2 + 1; omega⟩, a2, a3, by show n.2.2.2 + 1 = n.1 + 1 + 1; omega, fun i hi => ?_, fun i hi => ?_, a7⟩, ⟨fun r hr => ?_, fun r hr p hp => ?_, fun r hr j hj => ?_⟩, i3, i4⟩
  · have hi : i < n.2.2.2 + 1 := hi
    by_cases z : i = n.2.2.2
    · rw [z, s9M, e9M]
      exact ⟨rfl, by omega⟩
    · rw [s9 i (by omega), z9 i (by omega)]
      exact a5 i (by omega)
  · have hi : i < n.1 + 1 := hi
    rw [s9 i (by omega)]
    by_cases z : i = n.1
    · rw [z]; exact h2
    · exact a6 i (by omega)
  · have hr : r < n.1 + 1 := hr
    rw [z9 r (by omega), e9 r (by omega), c9]
    by_cases z : r = n.1
    · rw [if_pos z, z, upd_s, upd_s, upd_s]
      exact ⟨⟨k, hk, rfl⟩, (a5 n.1 (by omega)).1.symm, rfl⟩
    · rw [if_neg z, upd_n z, upd_n z]
      exact r1 r (by omega)
  · have hr : r ≤ n.1 + 1 := hr
    by_cases z : r = n.2.2.2
    · rw [z, s9M] at hp
      omega
    · rw [s9 r (by omega)] at hp
      rw [e10 r (by omega)]
      exact r2 r (by omega) p hp
  · have hr : r < n.1 + 1 := hr
    rw [e11 r (by omega) j hj]
    exact leftC_c (N := n.1 + 1) hr (fun o ho => (e9 o (by omega)).symm) (fun o ho => by rw [e10 o (by omega), cu_k (by omega)])
/-- name -/
theorem P_name (hI : Inv n c) (hN : n.2.1 < 10) {L R x y : Nat} (h1 : 1 ≤ L) (h2 : L ≤ 8) (h3 : R ≤ 3) (hx : x < 40) (hy : y < 40) : Inv (n.1, n.2.1 + 1, n.2.2) (cu (cu c 12 n.2.1 (nmF (nI L) (nI R) (nI x) (nI y))) 20 0 (upd (c 20 0) n.2.1 (nI (naV L R x y)))) := by
  obtain ⟨⟨a1, a2, a3, a4, a5, a6, a7⟩, i2, i3, i4⟩ := hI
  have f : ∀ q, q ≠ 12 → q ≠ 20 → (cu (cu c 12 n.2.1 (nmF (nI L) (nI R) (nI x) (nI y))) 20 0 (upd (c 20 0) n.2.1 (nI (naV L R x y)))) q = c q := by
    intro q z1 z2
    funext i
    rw [cu_k z2, cu_k z1]
  have f20 : (cu (cu c 12 n.2.1 (nmF (nI L) (nI R) (nI x) (nI y))) 20 0 (upd (c 20 0) n.2.1 (nI (naV L R x y)))) 20 0 = upd (c 20 0) n.2.1 (nI (naV L R x y)) := cu_s
  have f12 : ∀ i, (cu (cu c 12 n.2.1 (nmF (nI L) (nI R) (nI x) (nI y))) 20 0 (upd (c 20 0) n.2.1 (nI (naV L R x y)))) 12 i = if i = n.2.1 then nmF (nI L) (nI R) (nI x) (nI y) else c 12 i := by
    intro i
    rw [cu_k (by omega)]
    by_cases z : i = n.2.1
    · rw [z, cu_s, if_pos rfl]
    · rw [cu_i z, if_neg z]
  unfold Inv
  rw [f20, f 9 (by omega) (by omega), f 10 (by omega) (by omega), f 11 (by omega) (by omega), f 13 (by omega) (by omega), f 18 (by omega) (by omega), f 19 (by omega) (by omega), f 21 (by omega) (by omega)]
  refine ⟨⟨a1, by show n.2.1 + 1 ≤ 10; omega, a3, a4, a5, a6, a7⟩, i2, IN_up i3 (m0 := n.2.1) (L := L) (R := R) (X := x) (Y := y) (fun m hm z => ?_) ?_ upd_s, i4⟩
  · have hm : m < n.2.1 + 1 := hm
    exact ⟨by omega, by rw [f12, if_neg z], upd_n z⟩
  · unfold NmD
    rw [f12, if_pos rfl]
    exact ⟨h1, h2, h3, hx, hy, rfl, rfl, rfl, rfl⟩
/-- sheet -/
theorem P_sheet (hI : Inv n c) (hS : n.2.2.1 < 6) {sc a b r t g : Nat} (h0 : sc ≤ 3) (h1 : a < 40) (h2 : b < 40) (h3 : r < 40) (h4 : t < 40) (h5 : g < 41) {v : Int32} (hv : v = nI g - nI 1) (hF : ∀ s, s < n.2.2.1 → ∀ j, j < 6 → F (6 * s + j) = c 21 0 (6 * s + j)) (hF2 : ∀ j, j < 6 → F (6 * n.2.2.1 + j) = shF (nI sc) (nI a) (nI b) (nI r) (nI t) v j) : Inv (n.1, n.2.1, n.2.2.1 + 1, n.2.2.2) (shC (cu c 21 0 F) n.2.2.1 (shF (nI sc) (nI a) (nI b) (nI r) (nI t) v)) := by
  obtain ⟨⟨a1, a2, a3, a4, a5, a6, a7⟩, i2, i3, i4⟩ := hI
  generalize hu : shF (nI sc) (nI a) (nI b) (nI r) (nI t) v = u at *
  have f : ∀ q, q ≠ 13 → q ≠ 15 → q ≠ 16 → q ≠ 17 → q ≠ 21 → shC (cu c 21 0 F) n.2.2.1 u q = c q := by
    intro q z1 z2 z3 z4 z5
    funext i
    unfold shC
    rw [cu_k z4, cu_k z3, cu_k z2, cu_k z1, cu_k z5]
  have f21 : shC (cu c 21 0 F) n.2.2.1 u 21 0 = F := by
    unfold shC
    rw [cu_k (by omega), cu_k (by omega), cu_k (by omega), cu_k (by omega), cu_s]
  have f13 : ∀ i, shC (cu c 21 0 F) n.2.2.1 u 13 i = if i = n.2.2.1 then u else c 13 i := by
    intro i
    unfold shC
    rw [cu_k (by omega), cu_k (by omega), cu_k (by omega)]
    by_cases z : i = n.2.2.1
    · rw [z, cu_s, if_pos rfl]
    · rw [cu_i z, cu_k (by omega), if_neg z]
  unfold Inv
  rw [f21, f 9 (by omega) (by omega) (by omega) (by omega) (by omega), f 10 (by omega) (by omega) (by omega) (by omega) (by omega), f 11 (by omega) (by omega) (by omega) (by omega) (by omega), f 12 (by omega) (by omega) (by omega) (by omega) (by omega), f 18 (by omega) (by omega) (by omega) (by omega) (by omega), f 19 (by omega) (by omega) (by omega) (by omega) (by omega), f 20 (by omega) (by omega) (by omega) (by omega) (by omega)]
  refine ⟨⟨a1, a2, by show n.2.2.1 + 1 ≤ 6; omega, a4, a5, a6, fun s hs' => ?_⟩, i2, i3, IS_up i4 (s0 := n.2.2.1) (fun s hs' z => ?_) ?_ ?_ ?_⟩
  · have hs' : s < n.2.2.1 + 1 := hs'
    unfold scO
    rw [f13]
    by_cases z : s = n.2.2.1
    · rw [if_pos z, ← hu]
      show nI sc = nI (nI sc).toNatClampNeg ∧ (nI sc).toNatClampNeg ≤ 3 ∧ nI 0 = bI (prB (nI 0))
      rw [nI_clamp (by omega)]
      exact ⟨rfl, h0, by decide⟩
    · rw [if_neg z]
      exact a7 s (by omega)
  · have hs' : s < n.2.2.1 + 1 := hs'
    exact ⟨by omega, by rw [f13, if_neg z], hF s (by omega)⟩
  · rw [f13, if_pos rfl, ← hu]
    exact ⟨sc, a, b, r, t, g, h0, ⟨h1, h2, h3, h4, h5, rfl, rfl, rfl, rfl, hv⟩, rfl⟩
  · rw [f13, if_pos rfl, ← hu]
    exact ⟨0, by omega, rfl⟩
  · rw [f13, if_pos rfl]
    exact hF2
/-- shift -/
theorem P_shift (hI : Inv n c) {m L R X0 Y0 x y : Nat} (hm : m < n.2.1) (hd : NmD (c 12) m L R X0 Y0) (hx : x < 40) (hy : y < 40) : Inv n (shfC (cu c 20 0 (upd (c 20 0) m (nI (naV L R x y)))) m (nI x) (nI y)) := by
  obtain ⟨i1, i2, i3, i4⟩ := hI
  have f : ∀ q, q ≠ 12 → q ≠ 20 → shfC (cu c 20 0 (upd (c 20 0) m (nI (naV L R x y)))) m (nI x) (nI y) q = c q := by
    intro q z1 z2
    funext i
    unfold shfC
    rw [cu_k z1, cu_k z2]
  have f20 : shfC (cu c 20 0 (upd (c 20 0) m (nI (naV L R x y)))) m (nI x) (nI y) 20 0 = upd (c 20 0) m (nI (naV L R x y)) := by
    unfold shfC
    rw [cu_k (by omega), cu_s]
  have f12 : ∀ i, shfC (cu c 20 0 (upd (c 20 0) m (nI (naV L R x y)))) m (nI x) (nI y) 12 i = if i = m then upd (upd (c 12 m) 2 (nI x)) 3 (nI y) else c 12 i := by
    intro i
    unfold shfC
    by_cases z : i = m
    · rw [z, cu_s, if_pos rfl, cu_k (by omega)]
    · rw [cu_i z, cu_k (by omega), if_neg z]
  unfold Inv
  rw [f20, f 9 (by omega) (by omega), f 10 (by omega) (by omega), f 11 (by omega) (by omega), f 13 (by omega) (by omega), f 18 (by omega) (by omega), f 19 (by omega) (by omega), f 21 (by omega) (by omega)]
  refine ⟨i1, i2, IN_up i3 (m0 := m) (L := L) (R := R) (X := x) (Y := y) (fun o ho z => ⟨ho, by rw [f12, if_neg z], upd_n z⟩) ?_ upd_s, i4⟩
  obtain ⟨l1, l8, hR, hX, hY, eL, eR, eX, eY⟩ := hd
  unfold NmD
  rw [f12, if_pos rfl]
  exact ⟨l1, l8, hR, hx, hy, by rw [upd_n (by omega), upd_n (by omega)]; exact eL, by rw [upd_n (by omega), upd_n (by omega)]; exact eR, by rw [upd_n (by omega), upd_s], upd_s⟩
/-- a sheet's stock, and whether it is printed, alone change -/
theorem P_stock (hI : Inv n c) {s0 k : Nat} (hs' : s0 < n.2.2.1) (hk : k ≤ 1000) (h : ∀ q, q = 9 ∨ q = 10 ∨ q = 11 ∨ q = 12 ∨ q = 18 ∨ q = 19 ∨ q = 20 ∨ q = 21 → X q = c q) (h1 : ∀ i, i ≠ s0 → X 13 i = c 13 i) (h2 : ∀ j, j < 6 → X 13 s0 j = c 13 s0 j) (h7 : X 13 s0 7 = bI (prB (X 13 s0 7))) (h8 : X 13 s0 8 = nI k) : Inv n X := by
  obtain ⟨⟨a1, a2, a3, a4, a5, a6, a7⟩, i2, i3, i4⟩ := hI
  unfold Inv
  rw [h 9 (by omega), h 10 (by omega), h 11 (by omega), h 12 (by omega), h 18 (by omega), h 19 (by omega), h 20 (by omega), h 21 (by omega)]
  refine ⟨⟨a1, a2, a3, a4, a5, a6, fun s hs' => ?_⟩, i2, i3, IS_up i4 (s0 := s0) (fun t ht z => ⟨ht, h1 t z, fun _ _ => rfl⟩) ?_ ⟨k, hk, h8⟩ ?_⟩
  · by_cases z : s = s0
    · subst z
      have := a7 s hs'
      unfold scO at this ⊢
      rw [h2 0 (by omega)]
      exact ⟨this.1, this.2.1, h7⟩
    · have := a7 s hs'
      unfold scO at this ⊢
      rw [h1 s z]
      exact this
  · obtain ⟨sc, a, b, r, t, g, b1, b2, b3⟩ := (i4 s0 hs').1
    refine ⟨sc, a, b, r, t, g, b1, ?_, by rw [h2 0 (by omega)]; exact b3⟩
    unfold UmD
    rw [h2 1 (by omega), h2 2 (by omega), h2 3 (by omega), h2 4 (by omega), h2 5 (by omega)]
    exact b2
  · intro j hj
    rw [h2 j hj]
    exact (i4 s0 hs').2.2 j hj
theorem P_print (hI : Inv n c) {s0 k : Nat} (hs' : s0 < n.2.2.1) (hk : k ≤ 1000) : Inv n (keepC (drw n c s0) s0 (nI k)) := by
  have ek : ∀ q, q ≠ 13 ∧ q ≠ 15 ∧ q ≠ 16 ∧ q ≠ 17 → keepC (drw n c s0) s0 (nI k) q = c q := by
    intro q z
    funext i
    unfold keepC
    rw [cu_k (by omega), cu_k (by omega), cu_k (by omega), cu_k (by omega), Sq_k (Sq_dr (n := n) (c := c) (s := s0)) (by omega)]
  have e13 : keepC (drw n c s0) s0 (nI k) 13 s0 = upd (upd (c 13 s0) 7 (nI 1)) 8 (nI k) := by
    unfold keepC
    rw [cu_s, Sq_k (Sq_dr (n := n) (c := c) (s := s0)) (by omega)]
  refine P_stock hI hs' hk (fun q hq => ek q (by omega)) (fun i z => ?_) (fun j hj => ?_) ?_ ?_
  · unfold keepC
    rw [cu_i z, cu_k (by omega), cu_k (by omega), cu_k (by omega), Sq_k (Sq_dr (n := n) (c := c) (s := s0)) (by omega)]
  · rw [e13, upd_n (by omega), upd_n (by omega)]
  · rw [e13, upd_n (by omega), upd_s]
    decide
  · rw [e13, upd_s]
theorem P_sell (hI : Inv n c) {s0 k m : Nat} (hs' : s0 < n.2.2.1) (hk : c 13 s0 8 = nI k) (hk2 : k ≤ 1000) (hm : m ≤ k) : Inv n (soldC c s0 (nI m)) := by
  have e13 : soldC c s0 (nI m) 13 s0 = upd (c 13 s0) 8 (nI (k - m)) := by
    unfold soldC
    rw [cu_s, hk, pk_sub hm]
  refine P_stock hI hs' (show k - m ≤ 1000 by omega) (fun q hq => ?_) (fun i z => ?_) (fun j hj => ?_) ?_ ?_
  · funext i
    unfold soldC
    rw [cu_k (by omega)]
  · unfold soldC
    rw [cu_i z]
  · rw [e13, upd_n (by omega)]
  · rw [e13, upd_n (by omega)]
    exact (hI.1.2.2.2.2.2.2 s0 hs').2.2
  · rw [e13, upd_s]
end
