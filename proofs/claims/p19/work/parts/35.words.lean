/-! the class's calls, at numbers that are in their ranges -/
theorem inR_nI {a v b : Nat} (h1 : a ≤ v) (h2 : v ≤ b) (hb : b < 2 ^ 31) : inR (nI a) (nI v) (nI b) = true := by
  unfold inR
  rw [decide_eq_false (lt_f h1 (by omega)), decide_eq_true (le_t h2 hb)]
  rfl
theorem inP_nI {a b : Nat} (h1 : a < 40) (h2 : b < 40) : inP (nI a) (nI b) = true := by
  unfold inP
  rw [inR_nI (Nat.zero_le a) (show a ≤ 39 by omega) (by decide), inR_nI (Nat.zero_le b) (show b ≤ 39 by omega) (by decide)]
  rfl
theorem isc_nI {j : Nat} (hj : j < 4) : isc (nI j) = true := inN_nI (N := 4) (by decide) hj
section
variable {x : Cx} {l : Ly} {n : Nn} {c : Cc} {K : Po} {r j s m a b k : Nat}
theorem q79 (h : Lay x l n) (hI : CI n (c 9) (c 13)) (hr : r < n.1) (hj : j < 4) : CL x 79 [.ref (l.1 0 0), .int (nI r), .int (nI j)] (Wo x l n c) K = K (.inl (some (.int (c 11 r j)))) (Wo x l n c) := by
  have hN := hI.1
  rw [s79 h hI, inN_nI (by omega) hr, isc_nI hj, Bool.and_self, if_pos rfl, nI_clamp (by omega), rdA_in hj (by decide)]
theorem q78 (h : Lay x l n) (hI : CI n (c 9) (c 13)) (hr : r < n.1) (hj : j < 4) : CL x 78 [.ref (l.1 0 0), .int (nI r), .int (nI j)] (Wo x l n c) K = K (.inl (some (.int (bcI (c 11 r j))))) (Wo x l n c) := by
  have hN := hI.1
  rw [s78 h hI, inN_nI (by omega) hr, isc_nI hj, Bool.and_self, if_pos rfl, nI_clamp (by omega), rdA_in hj (by decide)]
theorem q80 (h : Lay x l n) (hI : CI n (c 9) (c 13)) (hj : j < 4) : CL x 80 [.ref (l.1 0 0), .int (nI j)] (Wo x l n c) K = K (.inl (some (.int (mtL (c 9) (c 10) (c 11) n.1 (nI j))))) (Wo x l n c) := by
  rw [s80 h hI, isc_nI hj, if_pos rfl]
theorem q81 (h : Lay x l n) (hI : CI n (c 9) (c 13)) (hj : j < 4) : CL x 81 [.ref (l.1 0 0), .int (nI j)] (Wo x l n c) K = K (.inl (some (.int (mtA (c 9) (c 10) n.1 (nI j))))) (Wo x l n c) := by
  rw [s81 h hI, isc_nI hj, if_pos rfl]
theorem q87 (h : Lay x l n) (hI : CI n (c 9) (c 13)) (hs' : s < n.2.2.1) : CL x 87 [.ref (l.1 0 0), .int (nI s)] (Wo x l n c) K = K (.inl (some (.int (c 13 s 8)))) (Wo x l n c) := by
  have hN := hI.2.2.1
  rw [s87 h hI, inN_nI (by omega) hs', if_pos rfl, nI_clamp (by omega)]
theorem q88 (h : Lay x l n) (hI : CI n (c 9) (c 13)) (hs' : s < n.2.2.1) : CL x 88 [.ref (l.1 0 0), .int (nI s)] (Wo x l n c) K = K (.inl (some (.int (errC n c s)))) (Wo x l n (drw n c s)) := by
  have hN := hI.2.2.1
  rw [s88 h hI, inN_nI (by omega) hs', if_pos rfl, nI_clamp (by omega)]
theorem q83 (h : Lay x l n) (hI : CI n (c 9) (c 13)) (hs' : s < n.2.2.1) (hm : m < n.2.1) : CL x 83 [.ref (l.1 0 0), .int (nI s), .int (nI m)] (Wo x l n c) K = K (.inl (some (.int ((lbls n c s).2 m)))) (Wo x l n (cL c 0 (lbls n c s))) := by
  have hN := hI.2.2.1
  have hN2 := hI.2.1
  rw [s83 h hI, inN_nI (by omega) hs', if_pos rfl, inN_nI (by omega) hm, if_pos rfl, nI_clamp (by omega), nI_clamp (by omega)]
theorem q84 (h : Lay x l n) (hI : CI n (c 9) (c 13)) (hs' : s < n.2.2.1) (ha : a < 40) (hb : b < 40) : CL x 84 [.ref (l.1 0 0), .int (nI s), .int (nI a), .int (nI b)] (Wo x l n c) K = K (.inl (some (.int (ltF (tkB (lbls n c s).1 (c 12) (nI (b * 40 + a)) (nI 1)) n.2.1 0)))) (Wo x l n (cL c 0 (lbls n c s))) := by
  have hN := hI.2.2.1
  rw [s84 h hI, inN_nI (by omega) hs', if_pos rfl, inP_nI ha hb, if_pos rfl, nI_clamp (by omega)]
  unfold plV
  rw [pk_mul, nI_add]
theorem q77 (h : Lay x l n) (hI : CI n (c 9) (c 13)) (hm : m < n.2.1) (ha : a < 40) (hb : b < 40) : CL x 77 [.ref (l.1 0 0), .int (nI m), .int (nI a), .int (nI b)] (Wo x l n c) K = K (.inl (some (.int (sweC n (shfC c m (nI a) (nI b))).2))) (Wo x l n (sweC n (shfC c m (nI a) (nI b))).1) := by
  have hN2 := hI.2.1
  rw [s77 h hI, inN_nI (by omega) hm, if_pos rfl, inP_nI ha hb, if_pos rfl, nI_clamp (by omega)]
theorem q85 (h : Lay x l n) (hI : CI n (c 9) (c 13)) (hs' : s < n.2.2.1) (h1 : 1 ≤ m) (h2 : m ≤ 100) : CL x 85 [.ref (l.1 0 0), .int (nI s), .int (nI m)] (Wo x l n c) K = if copC n c s (nI m) ≤ nI 1000 then K (.inl (some (.int (copC n c s (nI m))))) (Wo x l n (keepC (drw n c s) s (copC n c s (nI m)))) else K (.inr 3) (Wo x l n (drw n c s)) := by
  have hN := hI.2.2.1
  rw [s85 h hI, inN_nI (by omega) hs', if_pos rfl, inR_nI h1 h2 (by decide), if_pos rfl, nI_clamp (by omega)]
theorem q86 (h : Lay x l n) (hI : CI n (c 9) (c 13)) (hs' : s < n.2.2.1) (h1 : 1 ≤ m) (h2 : m ≤ 1000) : CL x 86 [.ref (l.1 0 0), .int (nI s), .int (nI m)] (Wo x l n c) K = if c 13 s 8 < nI m then K (.inr 3) (Wo x l n c) else K (.inl (some (.int (errC n (soldC c s (nI m)) s)))) (Wo x l n (drw n (soldC c s (nI m)) s)) := by
  have hN := hI.2.2.1
  rw [s86 h hI, inN_nI (by omega) hs', if_pos rfl, inR_nI h1 h2 (by decide), if_pos rfl, nI_clamp (by omega)]
theorem q75 (h : Lay x l n) (hI : CI n (c 9) (c 13)) (hr : r < n.1) (hp : k < szO (c 9) r) (ha : a < 40) (hb : b < 40) : CL x 75 [.ref (l.1 0 0), .int (nI r), .int (nI k), .int (nI a), .int (nI b)] (Wo x l n c) K = if (decide (plc (c 9 r 2) (c 10 r) (nI k - nI 1) = plV (nI a) (nI b)) || decide (plc (c 9 r 2) (c 10 r) (nI k + nI 1) = plV (nI a) (nI b))) = true then K (.inr 3) (Wo x l n c) else K (.inl (some (.int (sweC n (movC n c r k (plV (nI a) (nI b)))).2))) (Wo x l n (sweC n (movC n c r k (plV (nI a) (nI b)))).1) := by
  have hN := hI.1
  have hz := (hI.2.2.2.2.1 r (by omega)).2
  rw [s75 h hI, inN_nI (by omega) hr, if_pos rfl, nI_clamp (show r < 2 ^ 31 by omega), inN_nI (by omega) hp, if_pos rfl, inP_nI ha hb, if_pos rfl, nI_clamp (show k < 2 ^ 31 by omega)]
theorem q73 (h : Lay x l n) (hD : l.1 0 1 = l.1 9 n.1) (hI : CI n (c 9) (c 13)) (ha : a < 40) (hb : b < 40) : CL x 73 [.ref (l.1 0 0), .int (nI a), .int (nI b)] (Wo x l n c) K = if szO (c 9) n.1 = 8 then K (.inr 3) (Wo x l n c) else if plc (c 9 n.1 2) (c 10 n.1) (c 9 n.1 2 - nI 1) = plV (nI a) (nI b) then K (.inr 3) (Wo x l n c) else K (.inl (some (.int (nI (szO (c 9) n.1 + 1))))) (Wo x l n (drfC n c (plV (nI a) (nI b)))) := by
  rw [s73 h hD hI, inP_nI ha hb, if_pos rfl]
end
