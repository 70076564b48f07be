/-! small words for running -/
def bI (b : Bool) : Int32 := if b = true then nI 1 else nI 0
theorem va_up_up {α : Type} {f : Nat → α} {k : Nat} {u v : α} : va_up (va_up f k u) k v = va_up f k v := by
  funext j
  unfold va_up
  split <;> rfl
theorem bI_t : bI true = nI 1 := rfl
theorem bI_f : bI false = nI 0 := rfl
theorem bI_0 {b : Bool} : (bI b = 0) ↔ (b = false) := by cases b <;> decide
theorem bI_if {α : Sort _} {b : Bool} {A B : α} [h : Decidable (bI b = 0)] : @ite α (bI b = 0) h A B = if b = true then B else A := by
  cases b
  · rw [if_pos (bI_0.mpr rfl), if_neg Bool.false_ne_true]
  · rw [if_neg (fun q => Bool.false_ne_true (bI_0.mp q).symm), if_pos rfl]
theorem bI_ok {b : Bool} : (bI b = 0 ∨ bI b = 1) = True := by cases b <;> exact eq_true (by decide)
theorem z0_t : (nI 0 = 0) = True := eq_true (by decide)
theorem z1_t : (nI 1 = 1) = True := eq_true (by decide)
theorem z1_f : (nI 1 = 0) = False := eq_false (by decide)
theorem bI_ok0 : (nI 0 = 0 ∨ nI 0 = 1) = True := eq_true (by decide)
theorem bI_ok1 : (nI 1 = 0 ∨ nI 1 = 1) = True := eq_true (by decide)
theorem qwV_s {v : Value} {fs : List Value} {k : Nat} {K : Value → Prop} : qwV (v :: fs) (k + 1) K = qwV fs k K := rfl
theorem qwV_0 {v : Value} {fs : List Value} {K : Value → Prop} : qwV (v :: fs) 0 K = K v := rfl
theorem qwO_s {ci : Nat} {fs : List Value} {K : List Value → Prop} : qwO (some (.inr (ci, fs))) ci K = K fs := and_t rfl
theorem qwK_s {ci : Nat} {fs : List Value} : qwK (some (.inr (ci, fs))) ci = True := eq_true rfl
theorem qwI_s {x : Cx} {n : Nat} {f : Nat → Int32} {K : Nat → (Nat → Int32) → Prop} : qwI (some (eI x n f)) (aK x 0) K = K n f := and_t rfl
theorem qwQ_s {x : Cx} {n : Nat} {f : Nat → Option Nat} {K : Nat → (Nat → Option Nat) → Prop} : qwQ (some (eQ x n f)) (aK x 3) K = K n f := and_t rfl
theorem qwL_s {x : Cx} {n o : Nat} {f : Nat → Int32} {K : Nat → (Nat → Int32) → Prop} : qwL x (some (eI x n f)) o K = K n f := and_t rfl
theorem qwL_b {x : Cx} {K : Nat → (Nat → Int32) → Prop} : qwL x none (xB x) K = K (xN x) (xS x) := and_t rfl
theorem qwA_I {x : Cx} {n o : Nat} {f : Nat → Int32} {K : Nat → Prop} : qwA x (some (eI x n f)) o K = K n := and_t rfl
theorem qwA_Q {x : Cx} {n o : Nat} {f : Nat → Option Nat} {K : Nat → Prop} : qwA x (some (eQ x n f)) o K = K n := and_t rfl
theorem qwA_E {x : Cx} {K : Nat → Prop} : qwA x none (xE x) K = K 0 := if_pos rfl
/-! the world, read off a state: l where things lie, n how many there are, c what they hold -/
abbrev Ly : Type := (Nat → Nat → Nat) × (Nat → Option (Nat × Nat))
abbrev Nn : Type := Nat × Nat × Nat × Nat
abbrev Cc : Type := Nat → Nat → Nat → Int32
def cu (c : Cc) (k i : Nat) (f : Nat → Int32) : Cc := fun k' i' => if k' = k ∧ i' = i then f else c k' i'
theorem cu_s {c : Cc} {k i : Nat} {f : Nat → Int32} : cu c k i f k i = f := if_pos ⟨rfl, rfl⟩
theorem cu_k {c : Cc} {k i k' i' : Nat} {f : Nat → Int32} (h : k' ≠ k) : cu c k i f k' i' = c k' i' := if_neg (fun q => h q.1)
theorem cu_i {c : Cc} {k i k' i' : Nat} {f : Nat → Int32} (h : i' ≠ i) : cu c k i f k' i' = c k' i' := if_neg (fun q => h q.2)
theorem cu_cu {c : Cc} {k i : Nat} {f g : Nat → Int32} : cu (cu c k i f) k i g = cu c k i g := by
  funext k' i'
  unfold cu
  split <;> rfl
theorem cu_id {c : Cc} {k i : Nat} : cu c k i (c k i) = c := by
  funext k' i'
  unfold cu
  split
  · next h => rw [h.1, h.2]
  · rfl
theorem upd_s {f : Nat → Int32} {k : Nat} {v : Int32} : upd f k v k = v := if_pos rfl
theorem upd_n {f : Nat → Int32} {k j : Nat} {v : Int32} (h : j ≠ k) : upd f k v j = f j := if_neg h
def bd (n : Nn) (k : Nat) : Nat := match k with
  | 3 => if n.1 = 0 then 0 else 1
  | 6 => if n.2.1 = 0 then 0 else 1
  | 8 => if n.2.2.1 = 0 then 0 else 1
  | 9 => n.2.2.2
  | 10 => n.2.2.2
  | 11 => n.2.2.2
  | 12 => n.2.1
  | 13 => n.2.2.1
  | 14 => n.2.2.1 + 1
  | 15 => n.2.2.1 + 1
  | 16 => n.2.2.1 + 1
  | 17 => n.2.2.1 + 1
  | k => if k < 22 then 1 else 0
def ml (k : Nat) : Nat := match k with
  | 10 => 8
  | 11 => 4
  | 15 => 10
  | 16 => 10
  | 17 => 64
  | 18 => 8
  | 19 => 8
  | 20 => 10
  | 21 => 36
  | _ => 0
def ct (x : Cx) (l : Ly) (n : Nn) (c : Cc) (k i : Nat) : va_E := match k with
  | 0 => eO 7 [.ref (l.1 1 0), .ref (l.1 4 0), .ref (l.1 7 0), .ref (l.1 14 0), .ref (l.1 0 1)]
  | 1 => eO 5 [.ref (l.1 2 0)]
  | 2 => eO 0 [.int (nI n.1), .ref (if n.1 = 0 then xE x else l.1 3 0), .int (nI n.1)]
  | 4 => eO 2 [.ref (l.1 5 0)]
  | 5 => eO 0 [.int (nI n.2.1), .ref (if n.2.1 = 0 then xE x else l.1 6 0), .int (nI n.2.1)]
  | 7 => eO 0 [.int (nI n.2.2.1), .ref (if n.2.2.1 = 0 then xE x else l.1 8 0), .int (nI n.2.2.1)]
  | 9 => eO 4 [.ref (l.1 10 i), .ref (l.1 11 i), .int (c 9 i 2), .int (c 9 i 3)]
  | 12 => eO 1 [.int (c 12 i 0), .int (c 12 i 1), .int (c 12 i 2), .int (c 12 i 3)]
  | 13 => eO 6 [.int (c 13 i 0), .int (c 13 i 1), .int (c 13 i 2), .int (c 13 i 3), .int (c 13 i 4), .int (c 13 i 5), .ref (l.1 14 (i + 1)), .int (c 13 i 7), .int (c 13 i 8)]
  | 14 => eO 3 [.ref (l.1 15 i), .ref (l.1 16 i), .ref (l.1 17 i)]
  | 3 => eQ x 10 (fun j => if j < n.1 then some (l.1 9 j) else none)
  | 6 => eQ x 10 (fun j => if j < n.2.1 then some (l.1 12 j) else none)
  | 8 => eQ x 10 (fun j => if j < n.2.2.1 then some (l.1 13 j) else none)
  | k => eI x (ml k) (c k i)
def Wo (x : Cx) (l : Ly) (n : Nn) (c : Cc) : Wd := fun a => match l.2 a with
  | some q => some (ct x l n c q.1 q.2)
  | none => none
def LayB (x : Cx) (l : Ly) (B : Nat → Nat) : Prop := (∀ k i, i < B k → l.2 (l.1 k i) = some (k, i)) ∧ (∀ a k i, l.2 a = some (k, i) → i < B k ∧ l.1 k i = a) ∧ l.2 (xE x) = none ∧ l.2 (xB x) = none
abbrev Lay (x : Cx) (l : Ly) (n : Nn) : Prop := LayB x l (bd n)
section
variable {x : Cx} {l : Ly} {n : Nn} {c c' : Cc} {k i : Nat}
theorem Wo_get (h : Lay x l n) (hi : i < bd n k) : Wo x l n c (l.1 k i) = some (ct x l n c k i) := by
  unfold Wo
  rw [h.1 k i hi]
theorem Wo_E (h : Lay x l n) : Wo x l n c (xE x) = none := by unfold Wo; rw [h.2.2.1]
theorem Wo_B (h : Lay x l n) : Wo x l n c (xB x) = none := by unfold Wo; rw [h.2.2.2]
theorem ad_ne (h : Lay x l n) {k' i' : Nat} (hi : i < bd n k) (hi' : i' < bd n k') (hn : k ≠ k' ∨ i ≠ i') : l.1 k i ≠ l.1 k' i' := by
  intro q
  have h1 := h.1 k i hi
  rw [q, h.1 k' i' hi'] at h1
  simp only [Option.some.injEq, Prod.mk.injEq] at h1
  omega
theorem ad_E (h : Lay x l n) (hi : i < bd n k) : l.1 k i ≠ xE x := by
  intro q
  have h1 := h.1 k i hi
  rw [q, h.2.2.1] at h1
  cases h1
theorem ad_eq (h : Lay x l n) {j : Nat} (hi : i < bd n k) (hj : j < bd n k) : (l.1 k i = l.1 k j) = (i = j) := by
  refine propext ⟨fun q => ?_, fun q => by rw [q]⟩
  have h1 := h.1 k i hi
  rw [q, h.1 k j hj] at h1
  simp only [Option.some.injEq, Prod.mk.injEq] at h1
  exact h1.2.symm
theorem ct_n {k' i' : Nat} {f : Nat → Int32} (h : ¬ (k' = k ∧ i' = i)) : ct x l n (cu c k i f) k' i' = ct x l n c k' i' := by
  have h1 : cu c k i f k' i' = c k' i' := if_neg h
  unfold ct
  split <;> simp only [h1]
theorem Wo_set (h : Lay x l n) (hi : i < bd n k) {f : Nat → Int32} {e : va_E} (he : ct x l n (cu c k i f) k i = e) : va_up (Wo x l n c) (l.1 k i) (some e) = Wo x l n (cu c k i f) := by
  funext a
  unfold va_up
  split
  · next q => rw [q, Wo_get h hi, he]
  · next q =>
    unfold Wo
    cases h2 : l.2 a with
    | none => rfl
    | some v =>
      obtain ⟨k', i'⟩ := v
      have h3 := h.2.1 a k' i' h2
      refine congrArg some (ct_n ?_).symm
      rintro ⟨rfl, rfl⟩
      exact q h3.2.symm
theorem g_0 (h : Lay x l n)  : Wo x l n c (l.1 0 0) = some (eO 7 [.ref (l.1 1 0), .ref (l.1 4 0), .ref (l.1 7 0), .ref (l.1 14 0), .ref (l.1 0 1)]) := Wo_get h (show 0 < bd n 0 from Nat.lt_of_lt_of_eq Nat.zero_lt_one rfl)
theorem k_0 (h : Lay x l n)  : qwK (Wo x l n c (l.1 0 0)) 7 = True := by rw [g_0 h]; exact qwK_s
theorem o_0 (h : Lay x l n)  {K : List Value → Prop} : qwO (Wo x l n c (l.1 0 0)) 7 K = K [.ref (l.1 1 0), .ref (l.1 4 0), .ref (l.1 7 0), .ref (l.1 14 0), .ref (l.1 0 1)] := by rw [g_0 h]; exact qwO_s
theorem f_0_0 (h : Lay x l n)  {K : Value → Prop} : (qwO (Wo x l n c (l.1 0 0)) 7 fun fs => qwV fs 0 K) = K (.ref (l.1 1 0)) := o_0 h
theorem f_0_1 (h : Lay x l n)  {K : Value → Prop} : (qwO (Wo x l n c (l.1 0 0)) 7 fun fs => qwV fs 1 K) = K (.ref (l.1 4 0)) := o_0 h
theorem f_0_2 (h : Lay x l n)  {K : Value → Prop} : (qwO (Wo x l n c (l.1 0 0)) 7 fun fs => qwV fs 2 K) = K (.ref (l.1 7 0)) := o_0 h
theorem f_0_3 (h : Lay x l n)  {K : Value → Prop} : (qwO (Wo x l n c (l.1 0 0)) 7 fun fs => qwV fs 3 K) = K (.ref (l.1 14 0)) := o_0 h
theorem f_0_4 (h : Lay x l n)  {K : Value → Prop} : (qwO (Wo x l n c (l.1 0 0)) 7 fun fs => qwV fs 4 K) = K (.ref (l.1 0 1)) := o_0 h
theorem g_1 (h : Lay x l n)  : Wo x l n c (l.1 1 0) = some (eO 5 [.ref (l.1 2 0)]) := Wo_get h (show 0 < bd n 1 from Nat.lt_of_lt_of_eq Nat.zero_lt_one rfl)
theorem k_1 (h : Lay x l n)  : qwK (Wo x l n c (l.1 1 0)) 5 = True := by rw [g_1 h]; exact qwK_s
theorem o_1 (h : Lay x l n)  {K : List Value → Prop} : qwO (Wo x l n c (l.1 1 0)) 5 K = K [.ref (l.1 2 0)] := by rw [g_1 h]; exact qwO_s
theorem f_1_0 (h : Lay x l n)  {K : Value → Prop} : (qwO (Wo x l n c (l.1 1 0)) 5 fun fs => qwV fs 0 K) = K (.ref (l.1 2 0)) := o_1 h
theorem g_2 (h : Lay x l n)  : Wo x l n c (l.1 2 0) = some (eO 0 [.int (nI n.1), .ref (if n.1 = 0 then xE x else l.1 3 0), .int (nI n.1)]) := Wo_get h (show 0 < bd n 2 from Nat.lt_of_lt_of_eq Nat.zero_lt_one rfl)
theorem k_2 (h : Lay x l n)  : qwK (Wo x l n c (l.1 2 0)) 0 = True := by rw [g_2 h]; exact qwK_s
theorem o_2 (h : Lay x l n)  {K : List Value → Prop} : qwO (Wo x l n c (l.1 2 0)) 0 K = K [.int (nI n.1), .ref (if n.1 = 0 then xE x else l.1 3 0), .int (nI n.1)] := by rw [g_2 h]; exact qwO_s
theorem f_2_0 (h : Lay x l n)  {K : Value → Prop} : (qwO (Wo x l n c (l.1 2 0)) 0 fun fs => qwV fs 0 K) = K (.int (nI n.1)) := o_2 h
theorem f_2_1 (h : Lay x l n)  {K : Value → Prop} : (qwO (Wo x l n c (l.1 2 0)) 0 fun fs => qwV fs 1 K) = K (.ref (if n.1 = 0 then xE x else l.1 3 0)) := o_2 h
theorem f_2_2 (h : Lay x l n)  {K : Value → Prop} : (qwO (Wo x l n c (l.1 2 0)) 0 fun fs => qwV fs 2 K) = K (.int (nI n.1)) := o_2 h
theorem g_4 (h : Lay x l n)  : Wo x l n c (l.1 4 0) = some (eO 2 [.ref (l.1 5 0)]) := Wo_get h (show 0 < bd n 4 from Nat.lt_of_lt_of_eq Nat.zero_lt_one rfl)
theorem k_4 (h : Lay x l n)  : qwK (Wo x l n c (l.1 4 0)) 2 = True := by rw [g_4 h]; exact qwK_s
theorem o_4 (h : Lay x l n)  {K : List Value → Prop} : qwO (Wo x l n c (l.1 4 0)) 2 K = K [.ref (l.1 5 0)] := by rw [g_4 h]; exact qwO_s
theorem f_4_0 (h : Lay x l n)  {K : Value → Prop} : (qwO (Wo x l n c (l.1 4 0)) 2 fun fs => qwV fs 0 K) = K (.ref (l.1 5 0)) := o_4 h
theorem g_5 (h : Lay x l n)  : Wo x l n c (l.1 5 0) = some (eO 0 [.int (nI n.2.1), .ref (if n.2.1 = 0 then xE x else l.1 6 0), .int (nI n.2.1)]) := Wo_get h (show 0 < bd n 5 from Nat.lt_of_lt_of_eq Nat.zero_lt_one rfl)
theorem k_5 (h : Lay x l n)  : qwK (Wo x l n c (l.1 5 0)) 0 = True := by rw [g_5 h]; exact qwK_s
theorem o_5 (h : Lay x l n)  {K : List Value → Prop} : qwO (Wo x l n c (l.1 5 0)) 0 K = K [.int (nI n.2.1), .ref (if n.2.1 = 0 then xE x else l.1 6 0), .int (nI n.2.1)] := by rw [g_5 h]; exact qwO_s
theorem f_5_0 (h : Lay x l n)  {K : Value → Prop} : (qwO (Wo x l n c (l.1 5 0)) 0 fun fs => qwV fs 0 K) = K (.int (nI n.2.1)) := o_5 h
theorem f_5_1 (h : Lay x l n)  {K : Value → Prop} : (qwO (Wo x l n c (l.1 5 0)) 0 fun fs => qwV fs 1 K) = K (.ref (if n.2.1 = 0 then xE x else l.1 6 0)) := o_5 h
theorem f_5_2 (h : Lay x l n)  {K : Value → Prop} : (qwO (Wo x l n c (l.1 5 0)) 0 fun fs => qwV fs 2 K) = K (.int (nI n.2.1)) := o_5 h
theorem g_7 (h : Lay x l n)  : Wo x l n c (l.1 7 0) = some (eO 0 [.int (nI n.2.2.1), .ref (if n.2.2.1 = 0 then xE x else l.1 8 0), .int (nI n.2.2.1)]) := Wo_get h (show 0 < bd n 7 from Nat.lt_of_lt_of_eq Nat.zero_lt_one rfl)
theorem k_7 (h : Lay x l n)  : qwK (Wo x l n c (l.1 7 0)) 0 = True := by rw [g_7 h]; exact qwK_s
theorem o_7 (h : Lay x l n)  {K : List Value → Prop} : qwO (Wo x l n c (l.1 7 0)) 0 K = K [.int (nI n.2.2.1), .ref (if n.2.2.1 = 0 then xE x else l.1 8 0), .int (nI n.2.2.1)] := by rw [g_7 h]; exact qwO_s
theorem f_7_0 (h : Lay x l n)  {K : Value → Prop} : (qwO (Wo x l n c (l.1 7 0)) 0 fun fs => qwV fs 0 K) = K (.int (nI n.2.2.1)) := o_7 h
theorem f_7_1 (h : Lay x l n)  {K : Value → Prop} : (qwO (Wo x l n c (l.1 7 0)) 0 fun fs => qwV fs 1 K) = K (.ref (if n.2.2.1 = 0 then xE x else l.1 8 0)) := o_7 h
theorem f_7_2 (h : Lay x l n)  {K : Value → Prop} : (qwO (Wo x l n c (l.1 7 0)) 0 fun fs => qwV fs 2 K) = K (.int (nI n.2.2.1)) := o_7 h
theorem g_9 (h : Lay x l n) (hi : i < n.2.2.2) : Wo x l n c (l.1 9 i) = some (eO 4 [.ref (l.1 10 i), .ref (l.1 11 i), .int (c 9 i 2), .int (c 9 i 3)]) := Wo_get h hi
theorem k_9 (h : Lay x l n) (hi : i < n.2.2.2) : qwK (Wo x l n c (l.1 9 i)) 4 = True := by rw [g_9 h hi]; exact qwK_s
theorem o_9 (h : Lay x l n) (hi : i < n.2.2.2) {K : List Value → Prop} : qwO (Wo x l n c (l.1 9 i)) 4 K = K [.ref (l.1 10 i), .ref (l.1 11 i), .int (c 9 i 2), .int (c 9 i 3)] := by rw [g_9 h hi]; exact qwO_s
theorem f_9_0 (h : Lay x l n) (hi : i < n.2.2.2) {K : Value → Prop} : (qwO (Wo x l n c (l.1 9 i)) 4 fun fs => qwV fs 0 K) = K (.ref (l.1 10 i)) := o_9 h hi
theorem f_9_1 (h : Lay x l n) (hi : i < n.2.2.2) {K : Value → Prop} : (qwO (Wo x l n c (l.1 9 i)) 4 fun fs => qwV fs 1 K) = K (.ref (l.1 11 i)) := o_9 h hi
theorem f_9_2 (h : Lay x l n) (hi : i < n.2.2.2) {K : Value → Prop} : (qwO (Wo x l n c (l.1 9 i)) 4 fun fs => qwV fs 2 K) = K (.int (c 9 i 2)) := o_9 h hi
theorem p_9_2 (h : Lay x l n) (hi : i < n.2.2.2) {v : Int32} : va_up (Wo x l n c) (l.1 9 i) (some (eO 4 [.ref (l.1 10 i), .ref (l.1 11 i), .int v, .int (c 9 i 3)])) = Wo x l n (cu c 9 i (upd (c 9 i) 2 v)) := Wo_set h hi (by unfold ct; simp only [cu_s]; rfl)
theorem f_9_3 (h : Lay x l n) (hi : i < n.2.2.2) {K : Value → Prop} : (qwO (Wo x l n c (l.1 9 i)) 4 fun fs => qwV fs 3 K) = K (.int (c 9 i 3)) := o_9 h hi
theorem p_9_3 (h : Lay x l n) (hi : i < n.2.2.2) {v : Int32} : va_up (Wo x l n c) (l.1 9 i) (some (eO 4 [.ref (l.1 10 i), .ref (l.1 11 i), .int (c 9 i 2), .int v])) = Wo x l n (cu c 9 i (upd (c 9 i) 3 v)) := Wo_set h hi (by unfold ct; simp only [cu_s]; rfl)
theorem g_12 (h : Lay x l n) (hi : i < n.2.1) : Wo x l n c (l.1 12 i) = some (eO 1 [.int (c 12 i 0), .int (c 12 i 1), .int (c 12 i 2), .int (c 12 i 3)]) := Wo_get h hi
theorem k_12 (h : Lay x l n) (hi : i < n.2.1) : qwK (Wo x l n c (l.1 12 i)) 1 = True := by rw [g_12 h hi]; exact qwK_s
theorem o_12 (h : Lay x l n) (hi : i < n.2.1) {K : List Value → Prop} : qwO (Wo x l n c (l.1 12 i)) 1 K = K [.int (c 12 i 0), .int (c 12 i 1), .int (c 12 i 2), .int (c 12 i 3)] := by rw [g_12 h hi]; exact qwO_s
theorem f_12_0 (h : Lay x l n) (hi : i < n.2.1) {K : Value → Prop} : (qwO (Wo x l n c (l.1 12 i)) 1 fun fs => qwV fs 0 K) = K (.int (c 12 i 0)) := o_12 h hi
theorem p_12_0 (h : Lay x l n) (hi : i < n.2.1) {v : Int32} : va_up (Wo x l n c) (l.1 12 i) (some (eO 1 [.int v, .int (c 12 i 1), .int (c 12 i 2), .int (c 12 i 3)])) = Wo x l n (cu c 12 i (upd (c 12 i) 0 v)) := Wo_set h hi (by unfold ct; simp only [cu_s]; rfl)
theorem f_12_1 (h : Lay x l n) (hi : i < n.2.1) {K : Value → Prop} : (qwO (Wo x l n c (l.1 12 i)) 1 fun fs => qwV fs 1 K) = K (.int (c 12 i 1)) := o_12 h hi
theorem p_12_1 (h : Lay x l n) (hi : i < n.2.1) {v : Int32} : va_up (Wo x l n c) (l.1 12 i) (some (eO 1 [.int (c 12 i 0), .int v, .int (c 12 i 2), .int (c 12 i 3)])) = Wo x l n (cu c 12 i (upd (c 12 i) 1 v)) := Wo_set h hi (by unfold ct; simp only [cu_s]; rfl)
theorem f_12_2 (h : Lay x l n) (hi : i < n.2.1) {K : Value → Prop} : (qwO (Wo x l n c (l.1 12 i)) 1 fun fs => qwV fs 2 K) = K (.int (c 12 i 2)) := o_12 h hi
theorem p_12_2 (h : Lay x l n) (hi : i < n.2.1) {v : Int32} : va_up (Wo x l n c) (l.1 12 i) (some (eO 1 [.int (c 12 i 0), .int (c 12 i 1), .int v, .int (c 12 i 3)])) = Wo x l n (cu c 12 i (upd (c 12 i) 2 v)) := Wo_set h hi (by unfold ct; simp only [cu_s]; rfl)
theorem f_12_3 (h : Lay x l n) (hi : i < n.2.1) {K : Value → Prop} : (qwO (Wo x l n c (l.1 12 i)) 1 fun fs => qwV fs 3 K) = K (.int (c 12 i 3)) := o_12 h hi
theorem p_12_3 (h : Lay x l n) (hi : i < n.2.1) {v : Int32} : va_up (Wo x l n c) (l.1 12 i) (some (eO 1 [.int (c 12 i 0), .int (c 12 i 1), .int (c 12 i 2), .int v])) = Wo x l n (cu c 12 i (upd (c 12 i) 3 v)) := Wo_set h hi (by unfold ct; simp only [cu_s]; rfl)
theorem g_13 (h : Lay x l n) (hi : i < n.2.2.1) : Wo x l n c (l.1 13 i) = some (eO 6 [.int (c 13 i 0), .int (c 13 i 1), .int (c 13 i 2), .int (c 13 i 3), .int (c 13 i 4), .int (c 13 i 5), .ref (l.1 14 (i + 1)), .int (c 13 i 7), .int (c 13 i 8)]) := Wo_get h hi
theorem k_13 (h : Lay x l n) (hi : i < n.2.2.1) : qwK (Wo x l n c (l.1 13 i)) 6 = True := by rw [g_13 h hi]; exact qwK_s
theorem o_13 (h : Lay x l n) (hi : i < n.2.2.1) {K : List Value → Prop} : qwO (Wo x l n c (l.1 13 i)) 6 K = K [.int (c 13 i 0), .int (c 13 i 1), .int (c 13 i 2), .int (c 13 i 3), .int (c 13 i 4), .int (c 13 i 5), .ref (l.1 14 (i + 1)), .int (c 13 i 7), .int (c 13 i 8)] := by rw [g_13 h hi]; exact qwO_s
theorem f_13_0 (h : Lay x l n) (hi : i < n.2.2.1) {K : Value → Prop} : (qwO (Wo x l n c (l.1 13 i)) 6 fun fs => qwV fs 0 K) = K (.int (c 13 i 0)) := o_13 h hi
theorem p_13_0 (h : Lay x l n) (hi : i < n.2.2.1) {v : Int32} : va_up (Wo x l n c) (l.1 13 i) (some (eO 6 [.int v, .int (c 13 i 1), .int (c 13 i 2), .int (c 13 i 3), .int (c 13 i 4), .int (c 13 i 5), .ref (l.1 14 (i + 1)), .int (c 13 i 7), .int (c 13 i 8)])) = Wo x l n (cu c 13 i (upd (c 13 i) 0 v)) := Wo_set h hi (by unfold ct; simp only [cu_s]; rfl)
theorem f_13_1 (h : Lay x l n) (hi : i < n.2.2.1) {K : Value → Prop} : (qwO (Wo x l n c (l.1 13 i)) 6 fun fs => qwV fs 1 K) = K (.int (c 13 i 1)) := o_13 h hi
theorem p_13_1 (h : Lay x l n) (hi : i < n.2.2.1) {v : Int32} : va_up (Wo x l n c) (l.1 13 i) (some (eO 6 [.int (c 13 i 0), .int v, .int (c 13 i 2), .int (c 13 i 3), .int (c 13 i 4), .int (c 13 i 5), .ref (l.1 14 (i + 1)), .int (c 13 i 7), .int (c 13 i 8)])) = Wo x l n (cu c 13 i (upd (c 13 i) 1 v)) := Wo_set h hi (by unfold ct; simp only [cu_s]; rfl)
theorem f_13_2 (h : Lay x l n) (hi : i < n.2.2.1) {K : Value → Prop} : (qwO (Wo x l n c (l.1 13 i)) 6 fun fs => qwV fs 2 K) = K (.int (c 13 i 2)) := o_13 h hi
theorem p_13_2 (h : Lay x l n) (hi : i < n.2.2.1) {v : Int32} : va_up (Wo x l n c) (l.1 13 i) (some (eO 6 [.int (c 13 i 0), .int (c 13 i 1), .int v, .int (c 13 i 3), .int (c 13 i 4), .int (c 13 i 5), .ref (l.1 14 (i + 1)), .int (c 13 i 7), .int (c 13 i 8)])) = Wo x l n (cu c 13 i (upd (c 13 i) 2 v)) := Wo_set h hi (by unfold ct; simp only [cu_s]; rfl)
theorem f_13_3 (h : Lay x l n) (hi : i < n.2.2.1) {K : Value → Prop} : (qwO (Wo x l n c (l.1 13 i)) 6 fun fs => qwV fs 3 K) = K (.int (c 13 i 3)) := o_13 h hi
theorem p_13_3 (h : Lay x l n) (hi : i < n.2.2.1) {v : Int32} : va_up (Wo x l n c) (l.1 13 i) (some (eO 6 [.int (c 13 i 0), .int (c 13 i 1), .int (c 13 i 2), .int v, .int (c 13 i 4), .int (c 13 i 5), .ref (l.1 14 (i + 1)), .int (c 13 i 7), .int (c 13 i 8)])) = Wo x l n (cu c 13 i (upd (c 13 i) 3 v)) := Wo_set h hi (by unfold ct; simp only [cu_s]; rfl)
theorem f_13_4 (h : Lay x l n) (hi : i < n.2.2.1) {K : Value → Prop} : (qwO (Wo x l n c (l.1 13 i)) 6 fun fs => qwV fs 4 K) = K (.int (c 13 i 4)) := o_13 h hi
theorem p_13_4 (h : Lay x l n) (hi : i < n.2.2.1) {v : Int32} : va_up (Wo x l n c) (l.1 13 i) (some (eO 6 [.int (c 13 i 0), .int (c 13 i 1), .int (c 13 i 2), .int (c 13 i 3), .int v, .int (c 13 i 5), .ref (l.1 14 (i + 1)), .int (c 13 i 7), .int (c 13 i 8)])) = Wo x l n (cu c 13 i (upd (c 13 i) 4 v)) := Wo_set h hi (by unfold ct; simp only [cu_s]; rfl)
theorem f_13_5 (h : Lay x l n) (hi : i < n.2.2.1) {K : Value → Prop} : (qwO (Wo x l n c (l.1 13 i)) 6 fun fs => qwV fs 5 K) = K (.int (c 13 i 5)) := o_13 h hi
theorem p_13_5 (h : Lay x l n) (hi : i < n.2.2.1) {v : Int32} : va_up (Wo x l n c) (l.1 13 i) (some (eO 6 [.int (c 13 i 0), .int (c 13 i 1), .int (c 13 i 2), .int (c 13 i 3), .int (c 13 i 4), .int v, .ref (l.1 14 (i + 1)), .int (c 13 i 7), .int (c 13 i 8)])) = Wo x l n (cu c 13 i (upd (c 13 i) 5 v)) := Wo_set h hi (by unfold ct; simp only [cu_s]; rfl)
theorem f_13_6 (h : Lay x l n) (hi : i < n.2.2.1) {K : Value → Prop} : (qwO (Wo x l n c (l.1 13 i)) 6 fun fs => qwV fs 6 K) = K (.ref (l.1 14 (i + 1))) := o_13 h hi
theorem f_13_7 (h : Lay x l n) (hi : i < n.2.2.1) {K : Value → Prop} : (qwO (Wo x l n c (l.1 13 i)) 6 fun fs => qwV fs 7 K) = K (.int (c 13 i 7)) := o_13 h hi
theorem p_13_7 (h : Lay x l n) (hi : i < n.2.2.1) {v : Int32} : va_up (Wo x l n c) (l.1 13 i) (some (eO 6 [.int (c 13 i 0), .int (c 13 i 1), .int (c 13 i 2), .int (c 13 i 3), .int (c 13 i 4), .int (c 13 i 5), .ref (l.1 14 (i + 1)), .int v, .int (c 13 i 8)])) = Wo x l n (cu c 13 i (upd (c 13 i) 7 v)) := Wo_set h hi (by unfold ct; simp only [cu_s]; rfl)
theorem f_13_8 (h : Lay x l n) (hi : i < n.2.2.1) {K : Value → Prop} : (qwO (Wo x l n c (l.1 13 i)) 6 fun fs => qwV fs 8 K) = K (.int (c 13 i 8)) := o_13 h hi
theorem p_13_8 (h : Lay x l n) (hi : i < n.2.2.1) {v : Int32} : va_up (Wo x l n c) (l.1 13 i) (some (eO 6 [.int (c 13 i 0), .int (c 13 i 1), .int (c 13 i 2), .int (c 13 i 3), .int (c 13 i 4), .int (c 13 i 5), .ref (l.1 14 (i + 1)), .int (c 13 i 7), .int v])) = Wo x l n (cu c 13 i (upd (c 13 i) 8 v)) := Wo_set h hi (by unfold ct; simp only [cu_s]; rfl)
theorem g_14 (h : Lay x l n) (hi : i < n.2.2.1 + 1) : Wo x l n c (l.1 14 i) = some (eO 3 [.ref (l.1 15 i), .ref (l.1 16 i), .ref (l.1 17 i)]) := Wo_get h hi
theorem k_14 (h : Lay x l n) (hi : i < n.2.2.1 + 1) : qwK (Wo x l n c (l.1 14 i)) 3 = True := by rw [g_14 h hi]; exact qwK_s
theorem o_14 (h : Lay x l n) (hi : i < n.2.2.1 + 1) {K : List Value → Prop} : qwO (Wo x l n c (l.1 14 i)) 3 K = K [.ref (l.1 15 i), .ref (l.1 16 i), .ref (l.1 17 i)] := by rw [g_14 h hi]; exact qwO_s
theorem f_14_0 (h : Lay x l n) (hi : i < n.2.2.1 + 1) {K : Value → Prop} : (qwO (Wo x l n c (l.1 14 i)) 3 fun fs => qwV fs 0 K) = K (.ref (l.1 15 i)) := o_14 h hi
theorem f_14_1 (h : Lay x l n) (hi : i < n.2.2.1 + 1) {K : Value → Prop} : (qwO (Wo x l n c (l.1 14 i)) 3 fun fs => qwV fs 1 K) = K (.ref (l.1 16 i)) := o_14 h hi
theorem f_14_2 (h : Lay x l n) (hi : i < n.2.2.1 + 1) {K : Value → Prop} : (qwO (Wo x l n c (l.1 14 i)) 3 fun fs => qwV fs 2 K) = K (.ref (l.1 17 i)) := o_14 h hi
theorem g_10 (h : Lay x l n) (hi : i < n.2.2.2) : Wo x l n c (l.1 10 i) = some (eI x 8 (c 10 i)) := Wo_get h hi
theorem rL_10 (h : Lay x l n) (hi : i < n.2.2.2) {K : Nat → (Nat → Int32) → Prop} : qwL x (Wo x l n c (l.1 10 i)) (l.1 10 i) K = K 8 (c 10 i) := by rw [g_10 h hi]; exact qwL_s
theorem rI_10 (h : Lay x l n) (hi : i < n.2.2.2) {K : Nat → (Nat → Int32) → Prop} : qwI (Wo x l n c (l.1 10 i)) (aK x 0) K = K 8 (c 10 i) := by rw [g_10 h hi]; exact qwI_s
theorem rA_10 (h : Lay x l n) (hi : i < n.2.2.2) {K : Nat → Prop} {o : Nat} : qwA x (Wo x l n c (l.1 10 i)) o K = K 8 := by rw [g_10 h hi]; exact qwA_I
theorem p_10 (h : Lay x l n) (hi : i < n.2.2.2) {f : Nat → Int32} : va_up (Wo x l n c) (l.1 10 i) (some (eI x 8 f)) = Wo x l n (cu c 10 i f) := Wo_set h hi (by unfold ct ml; simp only [cu_s])
theorem g_11 (h : Lay x l n) (hi : i < n.2.2.2) : Wo x l n c (l.1 11 i) = some (eI x 4 (c 11 i)) := Wo_get h hi
theorem rL_11 (h : Lay x l n) (hi : i < n.2.2.2) {K : Nat → (Nat → Int32) → Prop} : qwL x (Wo x l n c (l.1 11 i)) (l.1 11 i) K = K 4 (c 11 i) := by rw [g_11 h hi]; exact qwL_s
theorem rI_11 (h : Lay x l n) (hi : i < n.2.2.2) {K : Nat → (Nat → Int32) → Prop} : qwI (Wo x l n c (l.1 11 i)) (aK x 0) K = K 4 (c 11 i) := by rw [g_11 h hi]; exact qwI_s
theorem rA_11 (h : Lay x l n) (hi : i < n.2.2.2) {K : Nat → Prop} {o : Nat} : qwA x (Wo x l n c (l.1 11 i)) o K = K 4 := by rw [g_11 h hi]; exact qwA_I
theorem p_11 (h : Lay x l n) (hi : i < n.2.2.2) {f : Nat → Int32} : va_up (Wo x l n c) (l.1 11 i) (some (eI x 4 f)) = Wo x l n (cu c 11 i f) := Wo_set h hi (by unfold ct ml; simp only [cu_s])
theorem g_15 (h : Lay x l n) (hi : i < n.2.2.1 + 1) : Wo x l n c (l.1 15 i) = some (eI x 10 (c 15 i)) := Wo_get h hi
theorem rL_15 (h : Lay x l n) (hi : i < n.2.2.1 + 1) {K : Nat → (Nat → Int32) → Prop} : qwL x (Wo x l n c (l.1 15 i)) (l.1 15 i) K = K 10 (c 15 i) := by rw [g_15 h hi]; exact qwL_s
theorem rI_15 (h : Lay x l n) (hi : i < n.2.2.1 + 1) {K : Nat → (Nat → Int32) → Prop} : qwI (Wo x l n c (l.1 15 i)) (aK x 0) K = K 10 (c 15 i) := by rw [g_15 h hi]; exact qwI_s
theorem rA_15 (h : Lay x l n) (hi : i < n.2.2.1 + 1) {K : Nat → Prop} {o : Nat} : qwA x (Wo x l n c (l.1 15 i)) o K = K 10 := by rw [g_15 h hi]; exact qwA_I
theorem p_15 (h : Lay x l n) (hi : i < n.2.2.1 + 1) {f : Nat → Int32} : va_up (Wo x l n c) (l.1 15 i) (some (eI x 10 f)) = Wo x l n (cu c 15 i f) := Wo_set h hi (by unfold ct ml; simp only [cu_s])
theorem g_16 (h : Lay x l n) (hi : i < n.2.2.1 + 1) : Wo x l n c (l.1 16 i) = some (eI x 10 (c 16 i)) := Wo_get h hi
theorem rL_16 (h : Lay x l n) (hi : i < n.2.2.1 + 1) {K : Nat → (Nat → Int32) → Prop} : qwL x (Wo x l n c (l.1 16 i)) (l.1 16 i) K = K 10 (c 16 i) := by rw [g_16 h hi]; exact qwL_s
theorem rI_16 (h : Lay x l n) (hi : i < n.2.2.1 + 1) {K : Nat → (Nat → Int32) → Prop} : qwI (Wo x l n c (l.1 16 i)) (aK x 0) K = K 10 (c 16 i) := by rw [g_16 h hi]; exact qwI_s
theorem rA_16 (h : Lay x l n) (hi : i < n.2.2.1 + 1) {K : Nat → Prop} {o : Nat} : qwA x (Wo x l n c (l.1 16 i)) o K = K 10 := by rw [g_16 h hi]; exact qwA_I
theorem p_16 (h : Lay x l n) (hi : i < n.2.2.1 + 1) {f : Nat → Int32} : va_up (Wo x l n c) (l.1 16 i) (some (eI x 10 f)) = Wo x l n (cu c 16 i f) := Wo_set h hi (by unfold ct ml; simp only [cu_s])
theorem g_17 (h : Lay x l n) (hi : i < n.2.2.1 + 1) : Wo x l n c (l.1 17 i) = some (eI x 64 (c 17 i)) := Wo_get h hi
theorem rL_17 (h : Lay x l n) (hi : i < n.2.2.1 + 1) {K : Nat → (Nat → Int32) → Prop} : qwL x (Wo x l n c (l.1 17 i)) (l.1 17 i) K = K 64 (c 17 i) := by rw [g_17 h hi]; exact qwL_s
theorem rI_17 (h : Lay x l n) (hi : i < n.2.2.1 + 1) {K : Nat → (Nat → Int32) → Prop} : qwI (Wo x l n c (l.1 17 i)) (aK x 0) K = K 64 (c 17 i) := by rw [g_17 h hi]; exact qwI_s
theorem rA_17 (h : Lay x l n) (hi : i < n.2.2.1 + 1) {K : Nat → Prop} {o : Nat} : qwA x (Wo x l n c (l.1 17 i)) o K = K 64 := by rw [g_17 h hi]; exact qwA_I
theorem p_17 (h : Lay x l n) (hi : i < n.2.2.1 + 1) {f : Nat → Int32} : va_up (Wo x l n c) (l.1 17 i) (some (eI x 64 f)) = Wo x l n (cu c 17 i f) := Wo_set h hi (by unfold ct ml; simp only [cu_s])
theorem g_18 (h : Lay x l n)  : Wo x l n c (l.1 18 0) = some (eI x 8 (c 18 0)) := Wo_get h (show 0 < bd n 18 from Nat.lt_of_lt_of_eq Nat.zero_lt_one rfl)
theorem rL_18 (h : Lay x l n)  {K : Nat → (Nat → Int32) → Prop} : qwL x (Wo x l n c (l.1 18 0)) (l.1 18 0) K = K 8 (c 18 0) := by rw [g_18 h]; exact qwL_s
theorem rI_18 (h : Lay x l n)  {K : Nat → (Nat → Int32) → Prop} : qwI (Wo x l n c (l.1 18 0)) (aK x 0) K = K 8 (c 18 0) := by rw [g_18 h]; exact qwI_s
theorem rA_18 (h : Lay x l n)  {K : Nat → Prop} {o : Nat} : qwA x (Wo x l n c (l.1 18 0)) o K = K 8 := by rw [g_18 h]; exact qwA_I
theorem p_18 (h : Lay x l n)  {f : Nat → Int32} : va_up (Wo x l n c) (l.1 18 0) (some (eI x 8 f)) = Wo x l n (cu c 18 0 f) := Wo_set h (show 0 < bd n 18 from Nat.lt_of_lt_of_eq Nat.zero_lt_one rfl) (by unfold ct ml; simp only [cu_s])
theorem g_19 (h : Lay x l n)  : Wo x l n c (l.1 19 0) = some (eI x 8 (c 19 0)) := Wo_get h (show 0 < bd n 19 from Nat.lt_of_lt_of_eq Nat.zero_lt_one rfl)
theorem rL_19 (h : Lay x l n)  {K : Nat → (Nat → Int32) → Prop} : qwL x (Wo x l n c (l.1 19 0)) (l.1 19 0) K = K 8 (c 19 0) := by rw [g_19 h]; exact qwL_s
theorem rI_19 (h : Lay x l n)  {K : Nat → (Nat → Int32) → Prop} : qwI (Wo x l n c (l.1 19 0)) (aK x 0) K = K 8 (c 19 0) := by rw [g_19 h]; exact qwI_s
theorem rA_19 (h : Lay x l n)  {K : Nat → Prop} {o : Nat} : qwA x (Wo x l n c (l.1 19 0)) o K = K 8 := by rw [g_19 h]; exact qwA_I
theorem p_19 (h : Lay x l n)  {f : Nat → Int32} : va_up (Wo x l n c) (l.1 19 0) (some (eI x 8 f)) = Wo x l n (cu c 19 0 f) := Wo_set h (show 0 < bd n 19 from Nat.lt_of_lt_of_eq Nat.zero_lt_one rfl) (by unfold ct ml; simp only [cu_s])
theorem g_20 (h : Lay x l n)  : Wo x l n c (l.1 20 0) = some (eI x 10 (c 20 0)) := Wo_get h (show 0 < bd n 20 from Nat.lt_of_lt_of_eq Nat.zero_lt_one rfl)
theorem rL_20 (h : Lay x l n)  {K : Nat → (Nat → Int32) → Prop} : qwL x (Wo x l n c (l.1 20 0)) (l.1 20 0) K = K 10 (c 20 0) := by rw [g_20 h]; exact qwL_s
theorem rI_20 (h : Lay x l n)  {K : Nat → (Nat → Int32) → Prop} : qwI (Wo x l n c (l.1 20 0)) (aK x 0) K = K 10 (c 20 0) := by rw [g_20 h]; exact qwI_s
theorem p_20 (h : Lay x l n)  {f : Nat → Int32} : va_up (Wo x l n c) (l.1 20 0) (some (eI x 10 f)) = Wo x l n (cu c 20 0 f) := Wo_set h (show 0 < bd n 20 from Nat.lt_of_lt_of_eq Nat.zero_lt_one rfl) (by unfold ct ml; simp only [cu_s])
theorem g_21 (h : Lay x l n)  : Wo x l n c (l.1 21 0) = some (eI x 36 (c 21 0)) := Wo_get h (show 0 < bd n 21 from Nat.lt_of_lt_of_eq Nat.zero_lt_one rfl)
theorem rL_21 (h : Lay x l n)  {K : Nat → (Nat → Int32) → Prop} : qwL x (Wo x l n c (l.1 21 0)) (l.1 21 0) K = K 36 (c 21 0) := by rw [g_21 h]; exact qwL_s
theorem rI_21 (h : Lay x l n)  {K : Nat → (Nat → Int32) → Prop} : qwI (Wo x l n c (l.1 21 0)) (aK x 0) K = K 36 (c 21 0) := by rw [g_21 h]; exact qwI_s
theorem p_21 (h : Lay x l n)  {f : Nat → Int32} : va_up (Wo x l n c) (l.1 21 0) (some (eI x 36 f)) = Wo x l n (cu c 21 0 f) := Wo_set h (show 0 < bd n 21 from Nat.lt_of_lt_of_eq Nat.zero_lt_one rfl) (by unfold ct ml; simp only [cu_s])
theorem g_3 (h : Lay x l n) (hi : n.1 ≠ 0) : Wo x l n c (l.1 3 0) = some (eQ x 10 (fun j => if j < n.1 then some (l.1 9 j) else none)) := Wo_get h (show 0 < (if n.1 = 0 then 0 else 1) by rw [if_neg hi]; decide)
theorem g_6 (h : Lay x l n) (hi : n.2.1 ≠ 0) : Wo x l n c (l.1 6 0) = some (eQ x 10 (fun j => if j < n.2.1 then some (l.1 12 j) else none)) := Wo_get h (show 0 < (if n.2.1 = 0 then 0 else 1) by rw [if_neg hi]; decide)
theorem g_8 (h : Lay x l n) (hi : n.2.2.1 ≠ 0) : Wo x l n c (l.1 8 0) = some (eQ x 10 (fun j => if j < n.2.2.1 then some (l.1 13 j) else none)) := Wo_get h (show 0 < (if n.2.2.1 = 0 then 0 else 1) by rw [if_neg hi]; decide)
end
