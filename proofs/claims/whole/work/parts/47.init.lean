def lyOf : List (Nat × Nat) → Ly
  | [] => (fun _ _ => 0, fun _ => none)
  | q :: t => lput (lyOf t) q.1 0 q.2
theorem lyOf_no : ∀ {t : List (Nat × Nat)} {o : Nat}, o ∉ t.map Prod.snd → (lyOf t).2 o = none
  | [], o, _ => rfl
  | q :: t, o, h => by
    simp only [List.map_cons, List.mem_cons, not_or] at h
    show (lput (lyOf t) q.1 0 q.2).2 o = none
    rw [lput_u h.1]
    exact lyOf_no h.2
theorem lyOf_none : ∀ {t : List (Nat × Nat)} {o : Nat}, (lyOf t).2 o = none → o ∉ t.map Prod.snd
  | [], o, _ => List.not_mem_nil
  | q :: t, o, h => by
    have h : (lput (lyOf t) q.1 0 q.2).2 o = none := h
    by_cases e : o = q.2
    · rw [e, lput_t] at h; cases h
    · rw [lput_u e] at h
      simp only [List.map_cons, List.mem_cons, not_or]
      exact ⟨e, lyOf_none h⟩
theorem lyOf_L {x : Cx} : ∀ {t : List (Nat × Nat)}, (t.map Prod.fst).Nodup → (t.map Prod.snd).Nodup → (∀ q ∈ t, q.2 ≠ xE x ∧ q.2 ≠ xB x) → LayB x (lyOf t) (fun k => if k ∈ t.map Prod.fst then 1 else 0)
  | [], _, _, _ => ⟨fun k i h => absurd h (Nat.not_lt_zero i), (fun a k i (h : (none : Option (Nat × Nat)) = some (k, i)) => (by cases h)), rfl, rfl⟩
  | q :: t, h1, h2, h3 => by
    obtain ⟨a1, a2⟩ := List.nodup_cons.mp h1
    obtain ⟨b1, b2⟩ := List.nodup_cons.mp h2
    have ih := lyOf_L a2 b2 (fun r hr => h3 r (List.mem_cons_of_mem _ hr))
    have hq := h3 q List.mem_cons_self
    refine LayB_cg (LayB_put ih (o := q.2) (k := q.1) (i := 0) (lyOf_no b1) hq.1 hq.2 (by rw [if_neg a1])) (fun k => ?_)
    rw [List.map_cons]
    by_cases e : k = q.1
    · rw [if_pos e, if_neg a1, if_pos (e ▸ List.mem_cons_self)]
    · rw [if_neg e]
      by_cases e2 : k ∈ t.map Prod.fst
      · rw [if_pos e2, if_pos (List.mem_cons_of_mem _ e2)]
      · rw [if_neg e2, if_neg (fun z => by rcases List.mem_cons.mp z with z | z; exact e z; exact e2 z)]
def n0 : Nn := (0, 0, 0, 1)
def c0 : Cc := fun _ _ _ => 0
def kin0 : List Nat := [19, 18, 47, 46, 45, 44, 43, 41, 40, 39, 38, 37, 36, 35, 34, 32, 31, 30, 29, 27, 26, 25, 24, 22, 21, 0, 9, 10, 11, 14, 15, 16, 17, 7, 4, 5, 1, 2]
theorem bd_0 : ∀ k, (if k ∈ kin0 then 1 else 0) = bd n0 k := by
  intro k
  by_cases h : k < 48
  · have : ∀ k, k < 48 → (if k ∈ kin0 then 1 else 0) = bd n0 k := by decide +kernel
    exact this k h
  · have h1 : ∀ q ∈ kin0, q < 48 := by decide +kernel
    rw [if_neg (fun z => h (h1 k z))]
    unfold bd
    split <;> first | omega | (rw [if_neg h])
theorem Inv_0 : Inv n0 c0 := by
  have z : ∀ k i j, c0 k i j = nI 0 := fun _ _ _ => rfl
  refine ⟨⟨⟨by decide, by decide⟩, by decide, by decide, rfl, fun i hi => by
      have hi : i < 1 := hi
      have e : i = 0 := by omega
      subst e
      exact ⟨by decide, by decide⟩, fun i hi => absurd hi (Nat.not_lt_zero i), fun s hs' => absurd hs' (Nat.not_lt_zero s)⟩, ⟨rfl, rfl, rfl, by decide, by decide, by decide, fun r hr => absurd hr (Nat.not_lt_zero r), fun m hm => absurd hm (Nat.not_lt_zero m), fun s hs' => absurd hs' (Nat.not_lt_zero s)⟩, fun r hr => absurd hr (Nat.not_lt_zero r), ⟨0, by decide, rfl, rfl, fun p hp => absurd hp (Nat.not_lt_zero p)⟩, fun m hm => absurd hm (Nat.not_lt_zero m), fun s hs' => absurd hs' (Nat.not_lt_zero s), fun r hr => absurd hr (Nat.not_lt_zero r), fun s hs' => absurd hs' (Nat.not_lt_zero s), fun s _ r _ _ => rfl, fun s _ _ => ⟨rfl, rfl⟩⟩
section
variable {x : Cx} {w : Wd}
set_option maxRecDepth 100000 in
theorem init_W {oo om a27 a26 a25 a24 a23 a21 a20 a19 a18 a17 a16 a15 a14 a12 a11 a10 a9 a7 a6 a5 a4 a2 a1 sm rd d1 d2 pc p1 p2 p3 sl n1 n2 r1 r2 : Nat} (h : Wl x [(oo, eJ x 1 (fun _ => 0)), (om, eO 8 [.int 0, .ref a1, .ref a2, .int 0, .ref a4, .ref a5, .ref a6, .ref a7, .int 0, .ref a9, .ref a10, .ref a11, .ref a12, .int 0, .ref a14, .ref a15, .ref a16, .ref a17, .ref a18, .ref a19, .ref a20, .ref a21, .int 0, .ref a23, .ref a24, .ref a25, .ref a26, .ref a27]), (a27, eI x 10 (fun _ => 0)), (a26, eI x 10 (fun _ => 0)), (a25, eI x 384 (fun _ => 0)), (a24, eI x 48 (fun _ => 0)), (a23, eI x 60 (fun _ => 0)), (a21, eZ x 6 (fun _ => 0)), (a20, eI x 6 (fun _ => 0)), (a19, eI x 6 (fun _ => 0)), (a18, eI x 6 (fun _ => 0)), (a17, eI x 6 (fun _ => 0)), (a16, eI x 6 (fun _ => 0)), (a15, eI x 6 (fun _ => 0)), (a14, eI x 6 (fun _ => 0)), (a12, eI x 10 (fun _ => 0)), (a11, eI x 10 (fun _ => 0)), (a10, eI x 10 (fun _ => 0)), (a9, eI x 10 (fun _ => 0)), (a7, eI x 8 (fun _ => 0)), (a6, eI x 8 (fun _ => 0)), (a5, eI x 64 (fun _ => 0)), (a4, eI x 64 (fun _ => 0)), (a2, eI x 8 (fun _ => 0)), (a1, eI x 8 (fun _ => 0)), (sm, eO 7 [.ref r1, .ref n1, .ref sl, .ref pc, .ref rd]), (rd, eO 4 [.ref d1, .ref d2, .int (nI 0), .int (nI 0)]), (d1, eI x 8 (fun _ => 0)), (d2, eI x 4 (fun _ => 0)), (pc, eO 3 [.ref p1, .ref p2, .ref p3]), (p1, eI x 10 (fun _ => 0)), (p2, eI x 10 (fun _ => 0)), (p3, eI x 64 (fun _ => 0)), (sl, eO 0 [.int (nI 0), .ref (xE x), .int 0]), (n1, eO 2 [.ref n2]), (n2, eO 0 [.int (nI 0), .ref (xE x), .int 0]), (r1, eO 5 [.ref r2]), (r2, eO 0 [.int (nI 0), .ref (xE x), .int 0])] w) : ∃ l : Ly, Lay x l n0 ∧ w = Wo x l n0 c0 ∧ l.1 0 0 = sm ∧ l.1 18 0 = om ∧ l.1 19 0 = oo ∧ l.1 0 1 = l.1 9 0 := by
  have hk : (([(19, oo), (18, om), (47, a27), (46, a26), (45, a25), (44, a24), (43, a23), (41, a21), (40, a20), (39, a19), (38, a18), (37, a17), (36, a16), (35, a15), (34, a14), (32, a12), (31, a11), (30, a10), (29, a9), (27, a7), (26, a6), (25, a5), (24, a4), (22, a2), (21, a1), (0, sm), (9, rd), (10, d1), (11, d2), (14, pc), (15, p1), (16, p2), (17, p3), (7, sl), (4, n1), (5, n2), (1, r1), (2, r2)] : List (Nat × Nat)).map Prod.fst).Nodup := (by decide +kernel : kin0.Nodup)
  have hL0 := lyOf_L (x := x) (t := [(19, oo), (18, om), (47, a27), (46, a26), (45, a25), (44, a24), (43, a23), (41, a21), (40, a20), (39, a19), (38, a18), (37, a17), (36, a16), (35, a15), (34, a14), (32, a12), (31, a11), (30, a10), (29, a9), (27, a7), (26, a6), (25, a5), (24, a4), (22, a2), (21, a1), (0, sm), (9, rd), (10, d1), (11, d2), (14, pc), (15, p1), (16, p2), (17, p3), (7, sl), (4, n1), (5, n2), (1, r1), (2, r2)]) hk h.1 (fun q hq => by
    simp only [List.mem_cons, List.not_mem_nil, or_false] at hq
    rcases hq with rfl | rfl | rfl | rfl | rfl | rfl | rfl | rfl | rfl | rfl | rfl | rfl | rfl | rfl | rfl | rfl | rfl | rfl | rfl | rfl | rfl | rfl | rfl | rfl | rfl | rfl | rfl | rfl | rfl | rfl | rfl | rfl | rfl | rfl | rfl | rfl | rfl | rfl
    · exact h.2.2.2 (oo, _) (List.mem_of_getElem? (i := 0) rfl)
    · exact h.2.2.2 (om, _) (List.mem_of_getElem? (i := 1) rfl)
    · exact h.2.2.2 (a27, _) (List.mem_of_getElem? (i := 2) rfl)
    · exact h.2.2.2 (a26, _) (List.mem_of_getElem? (i := 3) rfl)
    · exact h.2.2.2 (a25, _) (List.mem_of_getElem? (i := 4) rfl)
    · exact h.2.2.2 (a24, _) (List.mem_of_getElem? (i := 5) rfl)
    · exact h.2.2.2 (a23, _) (List.mem_of_getElem? (i := 6) rfl)
    · exact h.2.2.2 (a21, _) (List.mem_of_getElem? (i := 7) rfl)
    · exact h.2.2.2 (a20, _) (List.mem_of_getElem? (i := 8) rfl)
    · exact h.2.2.2 (a19, _) (List.mem_of_getElem? (i := 9) rfl)
    · exact h.2.2.2 (a18, _) (List.mem_of_getElem? (i := 10) rfl)
    · exact h.2.2.2 (a17, _) (List.mem_of_getElem? (i := 11) rfl)
    · exact h.2.2.2 (a16, _) (List.mem_of_getElem? (i := 12) rfl)
    · exact h.2.2.2 (a15, _) (List.mem_of_getElem? (i := 13) rfl)
    · exact h.2.2.2 (a14, _) (List.mem_of_getElem? (i := 14) rfl)
    · exact h.2.2.2 (a12, _) (List.mem_of_getElem? (i := 15) rfl)
    · exact h.2.2.2 (a11, _) (List.mem_of_getElem? (i := 16) rfl)
    · exact h.2.2.2 (a10, _) (List.mem_of_getElem? (i := 17) rfl)
    · exact h.2.2.2 (a9, _) (List.mem_of_getElem? (i := 18) rfl)
    · exact h.2.2.2 (a7, _) (List.mem_of_getElem? (i := 19) rfl)
    · exact h.2.2.2 (a6, _) (List.mem_of_getElem? (i := 20) rfl)
    · exact h.2.2.2 (a5, _) (List.mem_of_getElem? (i := 21) rfl)
    · exact h.2.2.2 (a4, _) (List.mem_of_getElem? (i := 22) rfl)
    · exact h.2.2.2 (a2, _) (List.mem_of_getElem? (i := 23) rfl)
    · exact h.2.2.2 (a1, _) (List.mem_of_getElem? (i := 24) rfl)
    · exact h.2.2.2 (sm, _) (List.mem_of_getElem? (i := 25) rfl)
    · exact h.2.2.2 (rd, _) (List.mem_of_getElem? (i := 26) rfl)
    · exact h.2.2.2 (d1, _) (List.mem_of_getElem? (i := 27) rfl)
    · exact h.2.2.2 (d2, _) (List.mem_of_getElem? (i := 28) rfl)
    · exact h.2.2.2 (pc, _) (List.mem_of_getElem? (i := 29) rfl)
    · exact h.2.2.2 (p1, _) (List.mem_of_getElem? (i := 30) rfl)
    · exact h.2.2.2 (p2, _) (List.mem_of_getElem? (i := 31) rfl)
    · exact h.2.2.2 (p3, _) (List.mem_of_getElem? (i := 32) rfl)
    · exact h.2.2.2 (sl, _) (List.mem_of_getElem? (i := 33) rfl)
    · exact h.2.2.2 (n1, _) (List.mem_of_getElem? (i := 34) rfl)
    · exact h.2.2.2 (n2, _) (List.mem_of_getElem? (i := 35) rfl)
    · exact h.2.2.2 (r1, _) (List.mem_of_getElem? (i := 36) rfl)
    · exact h.2.2.2 (r2, _) (List.mem_of_getElem? (i := 37) rfl)
    )
  have hL1 : LayB x (lyOf [(19, oo), (18, om), (47, a27), (46, a26), (45, a25), (44, a24), (43, a23), (41, a21), (40, a20), (39, a19), (38, a18), (37, a17), (36, a16), (35, a15), (34, a14), (32, a12), (31, a11), (30, a10), (29, a9), (27, a7), (26, a6), (25, a5), (24, a4), (22, a2), (21, a1), (0, sm), (9, rd), (10, d1), (11, d2), (14, pc), (15, p1), (16, p2), (17, p3), (7, sl), (4, n1), (5, n2), (1, r1), (2, r2)]) (bd n0) := LayB_cg hL0 bd_0
  have hL : Lay x (lset (lyOf [(19, oo), (18, om), (47, a27), (46, a26), (45, a25), (44, a24), (43, a23), (41, a21), (40, a20), (39, a19), (38, a18), (37, a17), (36, a16), (35, a15), (34, a14), (32, a12), (31, a11), (30, a10), (29, a9), (27, a7), (26, a6), (25, a5), (24, a4), (22, a2), (21, a1), (0, sm), (9, rd), (10, d1), (11, d2), (14, pc), (15, p1), (16, p2), (17, p3), (7, sl), (4, n1), (5, n2), (1, r1), (2, r2)]) 0 1 rd) n0 := LayB_set hL1 (by decide)
  refine ⟨lset (lyOf [(19, oo), (18, om), (47, a27), (46, a26), (45, a25), (44, a24), (43, a23), (41, a21), (40, a20), (39, a19), (38, a18), (37, a17), (36, a16), (35, a15), (34, a14), (32, a12), (31, a11), (30, a10), (29, a9), (27, a7), (26, a6), (25, a5), (24, a4), (22, a2), (21, a1), (0, sm), (9, rd), (10, d1), (11, d2), (14, pc), (15, p1), (16, p2), (17, p3), (7, sl), (4, n1), (5, n2), (1, r1), (2, r2)]) 0 1 rd, hL, Wo_fin hL (fun k i hi => ?_) (fun b hb => h.2.2.1 b (lyOf_none (t := [(19, oo), (18, om), (47, a27), (46, a26), (45, a25), (44, a24), (43, a23), (41, a21), (40, a20), (39, a19), (38, a18), (37, a17), (36, a16), (35, a15), (34, a14), (32, a12), (31, a11), (30, a10), (29, a9), (27, a7), (26, a6), (25, a5), (24, a4), (22, a2), (21, a1), (0, sm), (9, rd), (10, d1), (11, d2), (14, pc), (15, p1), (16, p2), (17, p3), (7, sl), (4, n1), (5, n2), (1, r1), (2, r2)]) hb)), rfl, rfl, rfl, rfl⟩
  rw [← bd_0 k] at hi
  by_cases hm : k ∈ kin0
  · rw [if_pos hm] at hi
    have hi0 : i = 0 := by omega
    subst hi0
    unfold kin0 at hm
    simp only [List.mem_cons, List.not_mem_nil, or_false] at hm
    rcases hm with rfl | rfl | rfl | rfl | rfl | rfl | rfl | rfl | rfl | rfl | rfl | rfl | rfl | rfl | rfl | rfl | rfl | rfl | rfl | rfl | rfl | rfl | rfl | rfl | rfl | rfl | rfl | rfl | rfl | rfl | rfl | rfl | rfl | rfl | rfl | rfl | rfl | rfl
    · refine (h.2.1 (oo, _) (List.mem_of_getElem? (i := 0) rfl)).trans (congrArg some (congrArg (eJ x 1) ?_))
      funext j
      exact (ite_self (c := j = 0) (0 : Int64)).symm
    · exact h.2.1 (om, _) (List.mem_of_getElem? (i := 1) rfl)
    · exact h.2.1 (a27, _) (List.mem_of_getElem? (i := 2) rfl)
    · exact h.2.1 (a26, _) (List.mem_of_getElem? (i := 3) rfl)
    · exact h.2.1 (a25, _) (List.mem_of_getElem? (i := 4) rfl)
    · exact h.2.1 (a24, _) (List.mem_of_getElem? (i := 5) rfl)
    · exact h.2.1 (a23, _) (List.mem_of_getElem? (i := 6) rfl)
    · exact h.2.1 (a21, _) (List.mem_of_getElem? (i := 7) rfl)
    · exact h.2.1 (a20, _) (List.mem_of_getElem? (i := 8) rfl)
    · exact h.2.1 (a19, _) (List.mem_of_getElem? (i := 9) rfl)
    · exact h.2.1 (a18, _) (List.mem_of_getElem? (i := 10) rfl)
    · exact h.2.1 (a17, _) (List.mem_of_getElem? (i := 11) rfl)
    · exact h.2.1 (a16, _) (List.mem_of_getElem? (i := 12) rfl)
    · exact h.2.1 (a15, _) (List.mem_of_getElem? (i := 13) rfl)
    · exact h.2.1 (a14, _) (List.mem_of_getElem? (i := 14) rfl)
    · exact h.2.1 (a12, _) (List.mem_of_getElem? (i := 15) rfl)
    · exact h.2.1 (a11, _) (List.mem_of_getElem? (i := 16) rfl)
    · exact h.2.1 (a10, _) (List.mem_of_getElem? (i := 17) rfl)
    · exact h.2.1 (a9, _) (List.mem_of_getElem? (i := 18) rfl)
    · exact h.2.1 (a7, _) (List.mem_of_getElem? (i := 19) rfl)
    · exact h.2.1 (a6, _) (List.mem_of_getElem? (i := 20) rfl)
    · exact h.2.1 (a5, _) (List.mem_of_getElem? (i := 21) rfl)
    · exact h.2.1 (a4, _) (List.mem_of_getElem? (i := 22) rfl)
    · exact h.2.1 (a2, _) (List.mem_of_getElem? (i := 23) rfl)
    · exact h.2.1 (a1, _) (List.mem_of_getElem? (i := 24) rfl)
    · exact h.2.1 (sm, _) (List.mem_of_getElem? (i := 25) rfl)
    · exact h.2.1 (rd, _) (List.mem_of_getElem? (i := 26) rfl)
    · exact h.2.1 (d1, _) (List.mem_of_getElem? (i := 27) rfl)
    · exact h.2.1 (d2, _) (List.mem_of_getElem? (i := 28) rfl)
    · exact h.2.1 (pc, _) (List.mem_of_getElem? (i := 29) rfl)
    · exact h.2.1 (p1, _) (List.mem_of_getElem? (i := 30) rfl)
    · exact h.2.1 (p2, _) (List.mem_of_getElem? (i := 31) rfl)
    · exact h.2.1 (p3, _) (List.mem_of_getElem? (i := 32) rfl)
    · exact h.2.1 (sl, _) (List.mem_of_getElem? (i := 33) rfl)
    · exact h.2.1 (n1, _) (List.mem_of_getElem? (i := 34) rfl)
    · exact h.2.1 (n2, _) (List.mem_of_getElem? (i := 35) rfl)
    · exact h.2.1 (r1, _) (List.mem_of_getElem? (i := 36) rfl)
    · exact h.2.1 (r2, _) (List.mem_of_getElem? (i := 37) rfl)
  · rw [if_neg hm] at hi
    omega
end
