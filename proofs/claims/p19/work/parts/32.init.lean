def lyOf : List (Nat × Nat) → Ly
  | [] => (fun _ _ => 0, fun _ => none)
  | q :: t => lput (lyOf t) q.1 0 q.2
theorem lyOf_no : ∀ {t : List (Nat × Nat)} {o : Nat}, o ∉ t.map Prod.snd → (lyOf t).2 o = none
  | [], o, _ => rfl
  | q :: t, o, h => by
    simp only [List.map_cons, List.mem_cons, not_or] at h
    show (lput (lyOf t) q.1 0 q.2).2 o = none
    rw [lput_u h.1]
    exact lyOf_no h.2
theorem lyOf_none : ∀ {t : List (Nat × Nat)} {o : Nat}, (lyOf t).2 o = none → o ∉ t.map Prod.snd
  | [], o, _ => List.not_mem_nil
  | q :: t, o, h => by
    have h : (lput (lyOf t) q.1 0 q.2).2 o = none := h
    by_cases e : o = q.2
    · rw [e, lput_t] at h; cases h
    · rw [lput_u e] at h
      simp only [List.map_cons, List.mem_cons, not_or]
      exact ⟨e, lyOf_none h⟩
theorem lyOf_L {x : Cx} : ∀ {t : List (Nat × Nat)}, (t.map Prod.fst).Nodup → (t.map Prod.snd).Nodup → (∀ q ∈ t, q.2 ≠ xE x ∧ q.2 ≠ xB x) → LayB x (lyOf t) (fun k => if k ∈ t.map Prod.fst then 1 else 0)
  | [], _, _, _ => ⟨fun k i h => absurd h (Nat.not_lt_zero i), (fun a k i (h : (none : Option (Nat × Nat)) = some (k, i)) => (by cases h)), rfl, rfl⟩
  | q :: t, h1, h2, h3 => by
    obtain ⟨a1, a2⟩ := List.nodup_cons.mp h1
    obtain ⟨b1, b2⟩ := List.nodup_cons.mp h2
    have ih := lyOf_L a2 b2 (fun r hr => h3 r (List.mem_cons_of_mem _ hr))
    have hq := h3 q List.mem_cons_self
    refine LayB_cg (LayB_put ih (o := q.2) (k := q.1) (i := 0) (lyOf_no b1) hq.1 hq.2 (by rw [if_neg a1])) (fun k => ?_)
    rw [List.map_cons]
    by_cases e : k = q.1
    · rw [if_pos e, if_neg a1, if_pos (e ▸ List.mem_cons_self)]
    · rw [if_neg e]
      by_cases e2 : k ∈ t.map Prod.fst
      · rw [if_pos e2, if_pos (List.mem_cons_of_mem _ e2)]
      · rw [if_neg e2, if_neg (fun z => by rcases List.mem_cons.mp z with z | z; exact e z; exact e2 z)]
def n0 : Nn := (0, 0, 0, 1)
def c0 : Cc := fun _ _ _ => 0
def kin0 : List Nat := [21, 20, 19, 18, 0, 9, 10, 11, 14, 15, 16, 17, 7, 4, 5, 1, 2]
theorem bd_0 : ∀ k, (if k ∈ kin0 then 1 else 0) = bd n0 k := by
  intro k
  by_cases h : k < 22
  · have : ∀ k, k < 22 → (if k ∈ kin0 then 1 else 0) = bd n0 k := by decide +kernel
    exact this k h
  · have h1 : ∀ q ∈ kin0, q < 22 := by decide +kernel
    rw [if_neg (fun z => h (h1 k z))]
    unfold bd
    split <;> first | omega | (rw [if_neg h])
section
variable {x : Cx} {w : Wd}
set_option maxRecDepth 100000 in
theorem init_W {a21 a20 a19 a18 sm rd d1 d2 pc p1 p2 p3 sl n1 n2 r1 r2 : Nat} (h : Wl x [(a21, eI x 36 (fun _ => 0)), (a20, eI x 10 (fun _ => 0)), (a19, eI x 8 (fun _ => 0)), (a18, eI x 8 (fun _ => 0)), (sm, eO 7 [.ref r1, .ref n1, .ref sl, .ref pc, .ref rd]), (rd, eO 4 [.ref d1, .ref d2, .int (nI 0), .int (nI 0)]), (d1, eI x 8 (fun _ => 0)), (d2, eI x 4 (fun _ => 0)), (pc, eO 3 [.ref p1, .ref p2, .ref p3]), (p1, eI x 10 (fun _ => 0)), (p2, eI x 10 (fun _ => 0)), (p3, eI x 64 (fun _ => 0)), (sl, eO 0 [.int (nI 0), .ref (xE x), .int 0]), (n1, eO 2 [.ref n2]), (n2, eO 0 [.int (nI 0), .ref (xE x), .int 0]), (r1, eO 5 [.ref r2]), (r2, eO 0 [.int (nI 0), .ref (xE x), .int 0])] w) : ∃ l : Ly, Lay x l n0 ∧ w = Wo x l n0 c0 ∧ l.1 0 0 = sm ∧ l.1 18 0 = a18 ∧ l.1 19 0 = a19 ∧ l.1 20 0 = a20 ∧ l.1 21 0 = a21 ∧ l.1 0 1 = l.1 9 0 := by
  have hk : (([(21, a21), (20, a20), (19, a19), (18, a18), (0, sm), (9, rd), (10, d1), (11, d2), (14, pc), (15, p1), (16, p2), (17, p3), (7, sl), (4, n1), (5, n2), (1, r1), (2, r2)] : List (Nat × Nat)).map Prod.fst).Nodup := (by decide +kernel : kin0.Nodup)
  have hL0 := lyOf_L (x := x) (t := [(21, a21), (20, a20), (19, a19), (18, a18), (0, sm), (9, rd), (10, d1), (11, d2), (14, pc), (15, p1), (16, p2), (17, p3), (7, sl), (4, n1), (5, n2), (1, r1), (2, r2)]) hk h.1 (fun q hq => by
    simp only [List.mem_cons, List.not_mem_nil, or_false] at hq
    rcases hq with rfl | rfl | rfl | rfl | rfl | rfl | rfl | rfl | rfl | rfl | rfl | rfl | rfl | rfl | rfl | rfl | rfl
    · exact h.2.2.2 (a21, _) (List.mem_of_getElem? (i := 0) rfl)
    · exact h.2.2.2 (a20, _) (List.mem_of_getElem? (i := 1) rfl)
    · exact h.2.2.2 (a19, _) (List.mem_of_getElem? (i := 2) rfl)
    · exact h.2.2.2 (a18, _) (List.mem_of_getElem? (i := 3) rfl)
    · exact h.2.2.2 (sm, _) (List.mem_of_getElem? (i := 4) rfl)
    · exact h.2.2.2 (rd, _) (List.mem_of_getElem? (i := 5) rfl)
    · exact h.2.2.2 (d1, _) (List.mem_of_getElem? (i := 6) rfl)
    · exact h.2.2.2 (d2, _) (List.mem_of_getElem? (i := 7) rfl)
    · exact h.2.2.2 (pc, _) (List.mem_of_getElem? (i := 8) rfl)
    · exact h.2.2.2 (p1, _) (List.mem_of_getElem? (i := 9) rfl)
    · exact h.2.2.2 (p2, _) (List.mem_of_getElem? (i := 10) rfl)
    · exact h.2.2.2 (p3, _) (List.mem_of_getElem? (i := 11) rfl)
    · exact h.2.2.2 (sl, _) (List.mem_of_getElem? (i := 12) rfl)
    · exact h.2.2.2 (n1, _) (List.mem_of_getElem? (i := 13) rfl)
    · exact h.2.2.2 (n2, _) (List.mem_of_getElem? (i := 14) rfl)
    · exact h.2.2.2 (r1, _) (List.mem_of_getElem? (i := 15) rfl)
    · exact h.2.2.2 (r2, _) (List.mem_of_getElem? (i := 16) rfl)
    )
  have hL1 : LayB x (lyOf [(21, a21), (20, a20), (19, a19), (18, a18), (0, sm), (9, rd), (10, d1), (11, d2), (14, pc), (15, p1), (16, p2), (17, p3), (7, sl), (4, n1), (5, n2), (1, r1), (2, r2)]) (bd n0) := LayB_cg hL0 bd_0
  have hL : Lay x (lset (lyOf [(21, a21), (20, a20), (19, a19), (18, a18), (0, sm), (9, rd), (10, d1), (11, d2), (14, pc), (15, p1), (16, p2), (17, p3), (7, sl), (4, n1), (5, n2), (1, r1), (2, r2)]) 0 1 rd) n0 := LayB_set hL1 (by decide)
  refine ⟨lset (lyOf [(21, a21), (20, a20), (19, a19), (18, a18), (0, sm), (9, rd), (10, d1), (11, d2), (14, pc), (15, p1), (16, p2), (17, p3), (7, sl), (4, n1), (5, n2), (1, r1), (2, r2)]) 0 1 rd, hL, Wo_fin hL (fun k i hi => ?_) (fun b hb => h.2.2.1 b (lyOf_none (t := [(21, a21), (20, a20), (19, a19), (18, a18), (0, sm), (9, rd), (10, d1), (11, d2), (14, pc), (15, p1), (16, p2), (17, p3), (7, sl), (4, n1), (5, n2), (1, r1), (2, r2)]) hb)), rfl, rfl, rfl, rfl, rfl, rfl⟩
  rw [← bd_0 k] at hi
  by_cases hm : k ∈ kin0
  · rw [if_pos hm] at hi
    have hi0 : i = 0 := by omega
    subst hi0
    unfold kin0 at hm
    simp only [List.mem_cons, List.not_mem_nil, or_false] at hm
    rcases hm with rfl | rfl | rfl | rfl | rfl | rfl | rfl | rfl | rfl | rfl | rfl | rfl | rfl | rfl | rfl | rfl | rfl
    · exact h.2.1 (a21, _) (List.mem_of_getElem? (i := 0) rfl)
    · exact h.2.1 (a20, _) (List.mem_of_getElem? (i := 1) rfl)
    · exact h.2.1 (a19, _) (List.mem_of_getElem? (i := 2) rfl)
    · exact h.2.1 (a18, _) (List.mem_of_getElem? (i := 3) rfl)
    · exact h.2.1 (sm, _) (List.mem_of_getElem? (i := 4) rfl)
    · exact h.2.1 (rd, _) (List.mem_of_getElem? (i := 5) rfl)
    · exact h.2.1 (d1, _) (List.mem_of_getElem? (i := 6) rfl)
    · exact h.2.1 (d2, _) (List.mem_of_getElem? (i := 7) rfl)
    · exact h.2.1 (pc, _) (List.mem_of_getElem? (i := 8) rfl)
    · exact h.2.1 (p1, _) (List.mem_of_getElem? (i := 9) rfl)
    · exact h.2.1 (p2, _) (List.mem_of_getElem? (i := 10) rfl)
    · exact h.2.1 (p3, _) (List.mem_of_getElem? (i := 11) rfl)
    · exact h.2.1 (sl, _) (List.mem_of_getElem? (i := 12) rfl)
    · exact h.2.1 (n1, _) (List.mem_of_getElem? (i := 13) rfl)
    · exact h.2.1 (n2, _) (List.mem_of_getElem? (i := 14) rfl)
    · exact h.2.1 (r1, _) (List.mem_of_getElem? (i := 15) rfl)
    · exact h.2.1 (r2, _) (List.mem_of_getElem? (i := 16) rfl)
  · rw [if_neg hm] at hi
    omega
end
