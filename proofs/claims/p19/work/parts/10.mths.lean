theorem and_t {A B : Prop} (h : A) : (A ∧ B) = B := propext ⟨fun q => q.2, fun q => ⟨h, q⟩⟩
theorem thr_t {A B C D : Prop} (h : C) : (A ∧ B ∧ C ∧ D) = (A ∧ B ∧ D) := propext ⟨fun q => ⟨q.1, q.2.1, q.2.2.2⟩, fun q => ⟨q.1, q.2.1, h, q.2.2⟩⟩
theorem qtk_app {K : List Value → List Value → Prop} : ∀ (as rest acc : List Value), qtk as.length (as ++ rest) acc K = K (as.reverse ++ acc) rest
  | [], rest, acc => rfl
  | v :: as, rest, acc => by
    show qtk as.length (as ++ rest) (v :: acc) K = _
    rw [qtk_app as rest (v :: acc)]
    simp
section
variable {x : Cx} {m pc i k n j e a b nl ci : Nat} {L : Lc} {S as rest : List Value} {w : Wd} {mc ms : Nat} {post : Po}
theorem ca_t {K : List Value → List Value → Prop} (hn : n = as.length) (hS : S = as.reverse ++ rest) : qtk n S [] K = K as rest := by
  subst hS; subst hn
  have := qtk_app (K := K) as.reverse rest []
  rw [List.length_reverse] at this
  rw [this]; simp
theorem inv_st {F : FT} : stepI x (.invokestatic i, 3, k, n, j, e) F m pc L S w mc ms post = (if e = 3 then qs1 S fun a S => S.length ≤ 4 ∧ F m (pc + 3) L (.int (if 0 ≤ a then a else 0 - a) :: S) w mc ms post else
      if e = 4 then qs2 S fun a b S => S.length ≤ 4 ∧ F m (pc + 3) L (.int (if a < b then b else a) :: S) w mc ms post else
      if e = 1 ∨ mH k ≠ [] then qtk n S [] fun args rest => rest.length ≤ 4 ∧ mMC k ≤ mc ∧ mMS k ≤ ms ∧ CLF F k args w (aftN F m (pc + 3) L rest (mc - mMC k) (ms - mMS k) post)
      else qtk n S [] fun args rest => rest.length ≤ 4 ∧ mMC k ≤ mc ∧ mMS k ≤ ms ∧ CLF F k args w (aftF F m pc (pc + 3) L rest (mc - mMC k) (ms - mMS k) post)) := rfl
theorem inv_nw {F : FT} : stepI x (.new i, n, a, b, j, e) F m pc L S w mc ms post = (if e = 1 then (1 ≤ mc ∧ 6 ≤ ms ∧ S.length ≤ 4 ∧ post (.inr a) w) else
      1 ≤ mc ∧ b ≤ ms ∧ ∀ o : Nat, frs x w o → F m (pc + 3) L (.ref o :: S) (va_up w o (some (eO a (dfl a)))) (mc - 1) (ms - b) post) := rfl
theorem oi_t {r : Nat} (h : cdAt m pc = some (.invokespecial i, 3, a, b, j, 2)) (hr : rest.length ≤ 4) : WP x m pc L (.ref r :: rest) w mc ms post = WP x m (pc + 3) L rest w mc ms post := by
  rw [WP_go h]
  exact and_t hr
theorem ab_t {u : Int32} (h : cdAt m pc = some (.invokestatic i, 3, a, b, j, 3)) (hr : rest.length ≤ 4) : WP x m pc L (.int u :: rest) w mc ms post = WP x m (pc + 3) L (.int (if 0 ≤ u then u else 0 - u) :: rest) w mc ms post := by
  rw [WP_go h]
  exact and_t hr
theorem mx_t {u v : Int32} (h : cdAt m pc = some (.invokestatic i, 3, a, b, j, 4)) (hr : rest.length ≤ 4) : WP x m pc L (.int v :: .int u :: rest) w mc ms post = WP x m (pc + 3) L (.int (if u < v then v else u) :: rest) w mc ms post := by
  rw [WP_go h]
  exact and_t hr
theorem sp_t {a b : Nat} (h : cdAt m pc = some (.invokespecial i, 3, k, n, j, e)) (he : ¬ e = 2) (hn : n = as.length) (hS : S = as.reverse ++ rest) (hr : rest.length ≤ 4) (ha : as.all cat1 = true) (hl : mL k = nl) (hle : as.length ≤ nl) (hc : mMC k = a) (hs : mMS k = b) (hrc : rcI as) :
    WP x m pc L S w mc ms post = (a ≤ mc ∧ b ≤ ms ∧ CL x k as w (aftN (WP x) m (pc + 3) L rest (mc - a) (ms - b) post)) := by
  rw [WP_go h]
  refine (if_neg he).trans ((ca_t hn hS).trans ((and_t hrc).trans (tcN1 hr ⟨ha, by rw [hl]; exact hle⟩ hc hs)))
theorem vi_t {a b r : Nat} (h : cdAt m pc = some (.invokevirtual i, 3, k, n, j, e)) (hn : n = (.ref r :: as : List Value).length) (hS : S = (.ref r :: as : List Value).reverse ++ rest) (hr : rest.length ≤ 4) (ha : (.ref r :: as : List Value).all cat1 = true) (hl : mL k = nl) (hle : (.ref r :: as : List Value).length ≤ nl) (hc : mMC k = a) (hs : mMS k = b) (hi : mI k = ci) :
    WP x m pc L S w mc ms post = (qwK (w r) ci ∧ a ≤ mc ∧ b ≤ ms ∧ CL x k (.ref r :: as) w (aftF (WP x) m pc (pc + 3) L rest (mc - a) (ms - b) post)) := by
  rw [WP_go h]
  refine (ca_t hn hS).trans ?_
  show (qwK (w r) (mI k) ∧ _) = _
  rw [hi]
  exact congrArg (And _) (tc1 hr ⟨ha, by rw [hl]; exact hle⟩ hc hs)
theorem st_t {a b : Nat} (h : cdAt m pc = some (.invokestatic i, 3, k, n, j, 0)) (hn : n = as.length) (hS : S = as.reverse ++ rest) (hr : rest.length ≤ 4) (ha : as.all cat1 = true) (hl : mL k = nl) (hle : as.length ≤ nl) (hc : mMC k = a) (hs : mMS k = b) (hh : mH k = []) :
    WP x m pc L S w mc ms post = (a ≤ mc ∧ b ≤ ms ∧ CL x k as w (aftF (WP x) m pc (pc + 3) L rest (mc - a) (ms - b) post)) := by
  have h1 : ¬ ((0 : Nat) = 1 ∨ mH k ≠ []) := fun q => q.elim (by decide) (fun z => z hh)
  rw [WP_go h, inv_st, if_neg (by decide), if_neg (by decide), if_neg h1, ca_t hn hS]
  exact tc1 hr ⟨ha, by rw [hl]; exact hle⟩ hc hs
theorem sN_t {a b : Nat} (h : cdAt m pc = some (.invokestatic i, 3, k, n, j, e)) (h3 : ¬ e = 3) (h4 : ¬ e = 4) (h5 : e = 1 ∨ mH k ≠ []) (hn : n = as.length) (hS : S = as.reverse ++ rest) (hr : rest.length ≤ 4) (ha : as.all cat1 = true) (hl : mL k = nl) (hle : as.length ≤ nl) (hc : mMC k = a) (hs : mMS k = b) :
    WP x m pc L S w mc ms post = (a ≤ mc ∧ b ≤ ms ∧ CL x k as w (aftN (WP x) m (pc + 3) L rest (mc - a) (ms - b) post)) := by
  rw [WP_go h, inv_st, if_neg h3, if_neg h4, if_pos h5, ca_t hn hS]
  exact tcN1 hr ⟨ha, by rw [hl]; exact hle⟩ hc hs
theorem ii_t {z : Int} {v u : Int32} (h : cdAt m pc = some (.iinc i z, n, a, b, j, e)) (hz : Int32.ofInt z = u) (hL : L[i]? = some (some (.int v))) (hi : i < L.length) : WP x m pc L S w mc ms post = WP x m (pc + 3) (L.set i (some (.int (v + u)))) S w mc ms post := by
  rw [WP_go h]
  show (qlI L i fun v => i < L.length ∧ WP x m (pc + 3) (L.set i (some (.int (v + Int32.ofInt z)))) S w mc ms post) = _
  unfold qlI
  rw [hL, hz]
  exact and_t hi
theorem nx_t (h : cdAt m pc = some (.new i, n, a, b, j, 1)) (hr : S.length ≤ 4) : WP x m pc L S w mc ms post = (1 ≤ mc ∧ 6 ≤ ms ∧ post (.inr a) w) := by
  rw [WP_go h]
  rw [inv_nw, if_pos rfl]
  exact thr_t hr
theorem nw_t (h : cdAt m pc = some (.new i, n, a, b, j, 0)) : WP x m pc L S w mc ms post = (1 ≤ mc ∧ b ≤ ms ∧ ∀ o : Nat, frs x w o → WP x m (pc + 3) L (.ref o :: S) (va_up w o (some (eO a (dfl a)))) (mc - 1) (ms - b) post) := by
  rw [WP_go h]
  rw [inv_nw, if_neg (by decide)]
theorem z_t {A : Prop} {n m : Nat} : (0 ≤ n ∧ 0 ≤ m ∧ A) = A := propext ⟨fun q => q.2.2, fun q => ⟨Nat.zero_le _, Nat.zero_le _, q⟩⟩
end

theorem mL_0 : mL 0 = 1 := by decide +kernel
theorem mC_0 : mMC 0 = 0 := by decide +kernel
theorem mS_0 : mMS 0 = 0 := by decide +kernel
theorem mI_0 : mI 0 = 99 := by decide +kernel
theorem mR_0 : mR 0 = (some Jvm.ClassFile.FieldType.int) := by decide +kernel
theorem mH_0 : mH 0 = [] := by decide +kernel
theorem CL_0 (x : Cx) (w : Wd) (K : Po) (v0 : Value) : CL x 0 [v0] w K = WP x 0 0 [some v0] [] w 0 0 K := by
  unfold CL
  rw [mL_0, mC_0, mS_0]
  rfl
theorem mL_1 : mL 1 = 1 := by decide +kernel
theorem mC_1 : mMC 1 = 0 := by decide +kernel
theorem mS_1 : mMS 1 = 0 := by decide +kernel
theorem mI_1 : mI 1 = 99 := by decide +kernel
theorem mR_1 : mR 1 = none := by decide +kernel
theorem mH_1 : mH 1 = [] := by decide +kernel
theorem CL_1 (x : Cx) (w : Wd) (K : Po) (v0 : Value) : CL x 1 [v0] w K = WP x 1 0 [some v0] [] w 0 0 K := by
  unfold CL
  rw [mL_1, mC_1, mS_1]
  rfl
theorem mL_2 : mL 2 = 1 := by decide +kernel
theorem mC_2 : mMC 2 = 0 := by decide +kernel
theorem mS_2 : mMS 2 = 0 := by decide +kernel
theorem mI_2 : mI 2 = 99 := by decide +kernel
theorem mR_2 : mR 2 = none := by decide +kernel
theorem mH_2 : mH 2 = [] := by decide +kernel
theorem CL_2 (x : Cx) (w : Wd) (K : Po) (v0 : Value) : CL x 2 [v0] w K = WP x 2 0 [some v0] [] w 0 0 K := by
  unfold CL
  rw [mL_2, mC_2, mS_2]
  rfl
theorem mL_3 : mL 3 = 1 := by decide +kernel
theorem mC_3 : mMC 3 = 0 := by decide +kernel
theorem mS_3 : mMS 3 = 0 := by decide +kernel
theorem mI_3 : mI 3 = 0 := by decide +kernel
theorem mR_3 : mR 3 = none := by decide +kernel
theorem mH_3 : mH 3 = [] := by decide +kernel
theorem CL_3 (x : Cx) (w : Wd) (K : Po) (v0 : Value) : CL x 3 [v0] w K = WP x 3 0 [some v0] [] w 0 0 K := by
  unfold CL
  rw [mL_3, mC_3, mS_3]
  rfl
theorem mL_4 : mL 4 = 4 := by decide +kernel
theorem mC_4 : mMC 4 = 1 := by decide +kernel
theorem mS_4 : mMS 4 = 10 := by decide +kernel
theorem mI_4 : mI 4 = 0 := by decide +kernel
theorem mR_4 : mR 4 = (some (Jvm.ClassFile.FieldType.array (Jvm.ClassFile.FieldType.object "java/lang/Object"))) := by decide +kernel
theorem mH_4 : mH 4 = [] := by decide +kernel
theorem CL_4 (x : Cx) (w : Wd) (K : Po) (v0 : Value) (v1 : Value) : CL x 4 [v0, v1] w K = WP x 4 0 [some v0, some v1, none, none] [] w 1 10 K := by
  unfold CL
  rw [mL_4, mC_4, mS_4]
  rfl
theorem mL_5 : mL 5 = 1 := by decide +kernel
theorem mC_5 : mMC 5 = 1 := by decide +kernel
theorem mS_5 : mMS 5 = 10 := by decide +kernel
theorem mI_5 : mI 5 = 0 := by decide +kernel
theorem mR_5 : mR 5 = (some (Jvm.ClassFile.FieldType.array (Jvm.ClassFile.FieldType.object "java/lang/Object"))) := by decide +kernel
theorem mH_5 : mH 5 = [] := by decide +kernel
theorem CL_5 (x : Cx) (w : Wd) (K : Po) (v0 : Value) : CL x 5 [v0] w K = WP x 5 0 [some v0] [] w 1 10 K := by
  unfold CL
  rw [mL_5, mC_5, mS_5]
  rfl
theorem mL_6 : mL 6 = 1 := by decide +kernel
theorem mC_6 : mMC 6 = 0 := by decide +kernel
theorem mS_6 : mMS 6 = 0 := by decide +kernel
theorem mI_6 : mI 6 = 0 := by decide +kernel
theorem mR_6 : mR 6 = (some Jvm.ClassFile.FieldType.int) := by decide +kernel
theorem mH_6 : mH 6 = [] := by decide +kernel
theorem CL_6 (x : Cx) (w : Wd) (K : Po) (v0 : Value) : CL x 6 [v0] w K = WP x 6 0 [some v0] [] w 0 0 K := by
  unfold CL
  rw [mL_6, mC_6, mS_6]
  rfl
theorem mL_7 : mL 7 = 2 := by decide +kernel
theorem mC_7 : mMC 7 = 0 := by decide +kernel
theorem mS_7 : mMS 7 = 0 := by decide +kernel
theorem mI_7 : mI 7 = 0 := by decide +kernel
theorem mR_7 : mR 7 = (some (Jvm.ClassFile.FieldType.object "java/lang/Object")) := by decide +kernel
theorem mH_7 : mH 7 = [] := by decide +kernel
theorem CL_7 (x : Cx) (w : Wd) (K : Po) (v0 : Value) (v1 : Value) : CL x 7 [v0, v1] w K = WP x 7 0 [some v0, some v1] [] w 0 0 K := by
  unfold CL
  rw [mL_7, mC_7, mS_7]
  rfl
theorem mL_8 : mL 8 = 2 := by decide +kernel
theorem mC_8 : mMC 8 = 0 := by decide +kernel
theorem mS_8 : mMS 8 = 0 := by decide +kernel
theorem mI_8 : mI 8 = 0 := by decide +kernel
theorem mR_8 : mR 8 = (some (Jvm.ClassFile.FieldType.object "java/lang/Object")) := by decide +kernel
theorem mH_8 : mH 8 = [] := by decide +kernel
theorem CL_8 (x : Cx) (w : Wd) (K : Po) (v0 : Value) (v1 : Value) : CL x 8 [v0, v1] w K = WP x 8 0 [some v0, some v1] [] w 0 0 K := by
  unfold CL
  rw [mL_8, mC_8, mS_8]
  rfl
theorem mL_9 : mL 9 = 4 := by decide +kernel
theorem mC_9 : mMC 9 = 1 := by decide +kernel
theorem mS_9 : mMS 9 = 10 := by decide +kernel
theorem mI_9 : mI 9 = 0 := by decide +kernel
theorem mR_9 : mR 9 = none := by decide +kernel
theorem mH_9 : mH 9 = [] := by decide +kernel
theorem CL_9 (x : Cx) (w : Wd) (K : Po) (v0 : Value) (v1 : Value) (v2 : Value) (v3 : Value) : CL x 9 [v0, v1, v2, v3] w K = WP x 9 0 [some v0, some v1, some v2, some v3] [] w 1 10 K := by
  unfold CL
  rw [mL_9, mC_9, mS_9]
  rfl
theorem mL_10 : mL 10 = 2 := by decide +kernel
theorem mC_10 : mMC 10 = 1 := by decide +kernel
theorem mS_10 : mMS 10 = 10 := by decide +kernel
theorem mI_10 : mI 10 = 0 := by decide +kernel
theorem mR_10 : mR 10 = (some Jvm.ClassFile.FieldType.boolean) := by decide +kernel
theorem mH_10 : mH 10 = [] := by decide +kernel
theorem CL_10 (x : Cx) (w : Wd) (K : Po) (v0 : Value) (v1 : Value) : CL x 10 [v0, v1] w K = WP x 10 0 [some v0, some v1] [] w 1 10 K := by
  unfold CL
  rw [mL_10, mC_10, mS_10]
  rfl
theorem mL_11 : mL 11 = 2 := by decide +kernel
theorem mC_11 : mMC 11 = 0 := by decide +kernel
theorem mS_11 : mMS 11 = 0 := by decide +kernel
theorem mI_11 : mI 11 = 99 := by decide +kernel
theorem mR_11 : mR 11 = (some Jvm.ClassFile.FieldType.int) := by decide +kernel
theorem mH_11 : mH 11 = [] := by decide +kernel
theorem CL_11 (x : Cx) (w : Wd) (K : Po) (v0 : Value) (v1 : Value) : CL x 11 [v0, v1] w K = WP x 11 0 [some v0, some v1] [] w 0 0 K := by
  unfold CL
  rw [mL_11, mC_11, mS_11]
  rfl
theorem mL_12 : mL 12 = 3 := by decide +kernel
theorem mC_12 : mMC 12 = 0 := by decide +kernel
theorem mS_12 : mMS 12 = 0 := by decide +kernel
theorem mI_12 : mI 12 = 99 := by decide +kernel
theorem mR_12 : mR 12 = (some Jvm.ClassFile.FieldType.int) := by decide +kernel
theorem mH_12 : mH 12 = [] := by decide +kernel
theorem CL_12 (x : Cx) (w : Wd) (K : Po) (v0 : Value) (v1 : Value) (v2 : Value) : CL x 12 [v0, v1, v2] w K = WP x 12 0 [some v0, some v1, some v2] [] w 0 0 K := by
  unfold CL
  rw [mL_12, mC_12, mS_12]
  rfl
theorem mL_13 : mL 13 = 5 := by decide +kernel
theorem mC_13 : mMC 13 = 0 := by decide +kernel
theorem mS_13 : mMS 13 = 0 := by decide +kernel
theorem mI_13 : mI 13 = 1 := by decide +kernel
theorem mR_13 : mR 13 = none := by decide +kernel
theorem mH_13 : mH 13 = [] := by decide +kernel
theorem CL_13 (x : Cx) (w : Wd) (K : Po) (v0 : Value) (v1 : Value) (v2 : Value) (v3 : Value) (v4 : Value) : CL x 13 [v0, v1, v2, v3, v4] w K = WP x 13 0 [some v0, some v1, some v2, some v3, some v4] [] w 0 0 K := by
  unfold CL
  rw [mL_13, mC_13, mS_13]
  rfl
theorem mL_14 : mL 14 = 1 := by decide +kernel
theorem mC_14 : mMC 14 = 0 := by decide +kernel
theorem mS_14 : mMS 14 = 0 := by decide +kernel
theorem mI_14 : mI 14 = 1 := by decide +kernel
theorem mR_14 : mR 14 = (some Jvm.ClassFile.FieldType.int) := by decide +kernel
theorem mH_14 : mH 14 = [] := by decide +kernel
theorem CL_14 (x : Cx) (w : Wd) (K : Po) (v0 : Value) : CL x 14 [v0] w K = WP x 14 0 [some v0] [] w 0 0 K := by
  unfold CL
  rw [mL_14, mC_14, mS_14]
  rfl
theorem mL_15 : mL 15 = 1 := by decide +kernel
theorem mC_15 : mMC 15 = 0 := by decide +kernel
theorem mS_15 : mMS 15 = 0 := by decide +kernel
theorem mI_15 : mI 15 = 1 := by decide +kernel
theorem mR_15 : mR 15 = (some Jvm.ClassFile.FieldType.int) := by decide +kernel
theorem mH_15 : mH 15 = [] := by decide +kernel
theorem CL_15 (x : Cx) (w : Wd) (K : Po) (v0 : Value) : CL x 15 [v0] w K = WP x 15 0 [some v0] [] w 0 0 K := by
  unfold CL
  rw [mL_15, mC_15, mS_15]
  rfl
theorem mL_16 : mL 16 = 1 := by decide +kernel
theorem mC_16 : mMC 16 = 0 := by decide +kernel
theorem mS_16 : mMS 16 = 0 := by decide +kernel
theorem mI_16 : mI 16 = 1 := by decide +kernel
theorem mR_16 : mR 16 = (some Jvm.ClassFile.FieldType.int) := by decide +kernel
theorem mH_16 : mH 16 = [] := by decide +kernel
theorem CL_16 (x : Cx) (w : Wd) (K : Po) (v0 : Value) : CL x 16 [v0] w K = WP x 16 0 [some v0] [] w 0 0 K := by
  unfold CL
  rw [mL_16, mC_16, mS_16]
  rfl
theorem mL_17 : mL 17 = 3 := by decide +kernel
theorem mC_17 : mMC 17 = 0 := by decide +kernel
theorem mS_17 : mMS 17 = 0 := by decide +kernel
theorem mI_17 : mI 17 = 1 := by decide +kernel
theorem mR_17 : mR 17 = none := by decide +kernel
theorem mH_17 : mH 17 = [] := by decide +kernel
theorem CL_17 (x : Cx) (w : Wd) (K : Po) (v0 : Value) (v1 : Value) (v2 : Value) : CL x 17 [v0, v1, v2] w K = WP x 17 0 [some v0, some v1, some v2] [] w 0 0 K := by
  unfold CL
  rw [mL_17, mC_17, mS_17]
  rfl
theorem mL_18 : mL 18 = 2 := by decide +kernel
theorem mC_18 : mMC 18 = 0 := by decide +kernel
theorem mS_18 : mMS 18 = 0 := by decide +kernel
theorem mI_18 : mI 18 = 1 := by decide +kernel
theorem mR_18 : mR 18 = (some Jvm.ClassFile.FieldType.int) := by decide +kernel
theorem mH_18 : mH 18 = [] := by decide +kernel
theorem CL_18 (x : Cx) (w : Wd) (K : Po) (v0 : Value) (v1 : Value) : CL x 18 [v0, v1] w K = WP x 18 0 [some v0, some v1] [] w 0 0 K := by
  unfold CL
  rw [mL_18, mC_18, mS_18]
  rfl
theorem mL_19 : mL 19 = 2 := by decide +kernel
theorem mC_19 : mMC 19 = 0 := by decide +kernel
theorem mS_19 : mMS 19 = 0 := by decide +kernel
theorem mI_19 : mI 19 = 1 := by decide +kernel
theorem mR_19 : mR 19 = (some Jvm.ClassFile.FieldType.int) := by decide +kernel
theorem mH_19 : mH 19 = [] := by decide +kernel
theorem CL_19 (x : Cx) (w : Wd) (K : Po) (v0 : Value) (v1 : Value) : CL x 19 [v0, v1] w K = WP x 19 0 [some v0, some v1] [] w 0 0 K := by
  unfold CL
  rw [mL_19, mC_19, mS_19]
  rfl
theorem mL_20 : mL 20 = 1 := by decide +kernel
theorem mC_20 : mMC 20 = 3 := by decide +kernel
theorem mS_20 : mMS 20 = 84 := by decide +kernel
theorem mI_20 : mI 20 = 3 := by decide +kernel
theorem mR_20 : mR 20 = none := by decide +kernel
theorem mH_20 : mH 20 = [] := by decide +kernel
theorem CL_20 (x : Cx) (w : Wd) (K : Po) (v0 : Value) : CL x 20 [v0] w K = WP x 20 0 [some v0] [] w 3 84 K := by
  unfold CL
  rw [mL_20, mC_20, mS_20]
  rfl
theorem mL_21 : mL 21 = 2 := by decide +kernel
theorem mC_21 : mMC 21 = 0 := by decide +kernel
theorem mS_21 : mMS 21 = 0 := by decide +kernel
theorem mI_21 : mI 21 = 3 := by decide +kernel
theorem mR_21 : mR 21 = none := by decide +kernel
theorem mH_21 : mH 21 = [] := by decide +kernel
theorem CL_21 (x : Cx) (w : Wd) (K : Po) (v0 : Value) : CL x 21 [v0] w K = WP x 21 0 [some v0, none] [] w 0 0 K := by
  unfold CL
  rw [mL_21, mC_21, mS_21]
  rfl
theorem mL_22 : mL 22 = 2 := by decide +kernel
theorem mC_22 : mMC 22 = 0 := by decide +kernel
theorem mS_22 : mMS 22 = 0 := by decide +kernel
theorem mI_22 : mI 22 = 3 := by decide +kernel
theorem mR_22 : mR 22 = none := by decide +kernel
theorem mH_22 : mH 22 = [] := by decide +kernel
theorem CL_22 (x : Cx) (w : Wd) (K : Po) (v0 : Value) : CL x 22 [v0] w K = WP x 22 0 [some v0, none] [] w 0 0 K := by
  unfold CL
  rw [mL_22, mC_22, mS_22]
  rfl
theorem mL_23 : mL 23 = 4 := by decide +kernel
theorem mC_23 : mMC 23 = 0 := by decide +kernel
theorem mS_23 : mMS 23 = 0 := by decide +kernel
theorem mI_23 : mI 23 = 3 := by decide +kernel
theorem mR_23 : mR 23 = none := by decide +kernel
theorem mH_23 : mH 23 = [] := by decide +kernel
theorem CL_23 (x : Cx) (w : Wd) (K : Po) (v0 : Value) (v1 : Value) (v2 : Value) (v3 : Value) : CL x 23 [v0, v1, v2, v3] w K = WP x 23 0 [some v0, some v1, some v2, some v3] [] w 0 0 K := by
  unfold CL
  rw [mL_23, mC_23, mS_23]
  rfl
theorem mL_24 : mL 24 = 5 := by decide +kernel
theorem mC_24 : mMC 24 = 0 := by decide +kernel
theorem mS_24 : mMS 24 = 0 := by decide +kernel
theorem mI_24 : mI 24 = 3 := by decide +kernel
theorem mR_24 : mR 24 = none := by decide +kernel
theorem mH_24 : mH 24 = [] := by decide +kernel
theorem CL_24 (x : Cx) (w : Wd) (K : Po) (v0 : Value) (v1 : Value) (v2 : Value) (v3 : Value) : CL x 24 [v0, v1, v2, v3] w K = WP x 24 0 [some v0, some v1, some v2, some v3, none] [] w 0 0 K := by
  unfold CL
  rw [mL_24, mC_24, mS_24]
  rfl
theorem mL_25 : mL 25 = 2 := by decide +kernel
theorem mC_25 : mMC 25 = 0 := by decide +kernel
theorem mS_25 : mMS 25 = 0 := by decide +kernel
theorem mI_25 : mI 25 = 3 := by decide +kernel
theorem mR_25 : mR 25 = (some Jvm.ClassFile.FieldType.int) := by decide +kernel
theorem mH_25 : mH 25 = [] := by decide +kernel
theorem CL_25 (x : Cx) (w : Wd) (K : Po) (v0 : Value) (v1 : Value) : CL x 25 [v0, v1] w K = WP x 25 0 [some v0, some v1] [] w 0 0 K := by
  unfold CL
  rw [mL_25, mC_25, mS_25]
  rfl
theorem mL_26 : mL 26 = 2 := by decide +kernel
theorem mC_26 : mMC 26 = 0 := by decide +kernel
theorem mS_26 : mMS 26 = 0 := by decide +kernel
theorem mI_26 : mI 26 = 3 := by decide +kernel
theorem mR_26 : mR 26 = (some Jvm.ClassFile.FieldType.int) := by decide +kernel
theorem mH_26 : mH 26 = [] := by decide +kernel
theorem CL_26 (x : Cx) (w : Wd) (K : Po) (v0 : Value) (v1 : Value) : CL x 26 [v0, v1] w K = WP x 26 0 [some v0, some v1] [] w 0 0 K := by
  unfold CL
  rw [mL_26, mC_26, mS_26]
  rfl
theorem mL_27 : mL 27 = 4 := by decide +kernel
theorem mC_27 : mMC 27 = 0 := by decide +kernel
theorem mS_27 : mMS 27 = 0 := by decide +kernel
theorem mI_27 : mI 27 = 3 := by decide +kernel
theorem mR_27 : mR 27 = (some Jvm.ClassFile.FieldType.int) := by decide +kernel
theorem mH_27 : mH 27 = [] := by decide +kernel
theorem CL_27 (x : Cx) (w : Wd) (K : Po) (v0 : Value) (v1 : Value) (v2 : Value) : CL x 27 [v0, v1, v2] w K = WP x 27 0 [some v0, some v1, some v2, none] [] w 0 0 K := by
  unfold CL
  rw [mL_27, mC_27, mS_27]
  rfl
theorem mL_28 : mL 28 = 4 := by decide +kernel
theorem mC_28 : mMC 28 = 0 := by decide +kernel
theorem mS_28 : mMS 28 = 0 := by decide +kernel
theorem mI_28 : mI 28 = 3 := by decide +kernel
theorem mR_28 : mR 28 = (some Jvm.ClassFile.FieldType.int) := by decide +kernel
theorem mH_28 : mH 28 = [] := by decide +kernel
theorem CL_28 (x : Cx) (w : Wd) (K : Po) (v0 : Value) (v1 : Value) : CL x 28 [v0, v1] w K = WP x 28 0 [some v0, some v1, none, none] [] w 0 0 K := by
  unfold CL
  rw [mL_28, mC_28, mS_28]
  rfl
theorem mL_29 : mL 29 = 4 := by decide +kernel
theorem mC_29 : mMC 29 = 0 := by decide +kernel
theorem mS_29 : mMS 29 = 0 := by decide +kernel
theorem mI_29 : mI 29 = 3 := by decide +kernel
theorem mR_29 : mR 29 = (some Jvm.ClassFile.FieldType.boolean) := by decide +kernel
theorem mH_29 : mH 29 = [] := by decide +kernel
theorem CL_29 (x : Cx) (w : Wd) (K : Po) (v0 : Value) (v1 : Value) (v2 : Value) : CL x 29 [v0, v1, v2] w K = WP x 29 0 [some v0, some v1, some v2, none] [] w 0 0 K := by
  unfold CL
  rw [mL_29, mC_29, mS_29]
  rfl
theorem mL_30 : mL 30 = 4 := by decide +kernel
theorem mC_30 : mMC 30 = 0 := by decide +kernel
theorem mS_30 : mMS 30 = 0 := by decide +kernel
theorem mI_30 : mI 30 = 3 := by decide +kernel
theorem mR_30 : mR 30 = none := by decide +kernel
theorem mH_30 : mH 30 = [] := by decide +kernel
theorem CL_30 (x : Cx) (w : Wd) (K : Po) (v0 : Value) (v1 : Value) : CL x 30 [v0, v1] w K = WP x 30 0 [some v0, some v1, none, none] [] w 0 0 K := by
  unfold CL
  rw [mL_30, mC_30, mS_30]
  rfl
theorem mL_31 : mL 31 = 7 := by decide +kernel
theorem mC_31 : mMC 31 = 4 := by decide +kernel
theorem mS_31 : mMS 31 = 87 := by decide +kernel
theorem mI_31 : mI 31 = 6 := by decide +kernel
theorem mR_31 : mR 31 = none := by decide +kernel
theorem mH_31 : mH 31 = [] := by decide +kernel
theorem CL_31 (x : Cx) (w : Wd) (K : Po) (v0 : Value) (v1 : Value) (v2 : Value) (v3 : Value) (v4 : Value) (v5 : Value) (v6 : Value) : CL x 31 [v0, v1, v2, v3, v4, v5, v6] w K = WP x 31 0 [some v0, some v1, some v2, some v3, some v4, some v5, some v6] [] w 4 87 K := by
  unfold CL
  rw [mL_31, mC_31, mS_31]
  rfl
theorem mL_32 : mL 32 = 1 := by decide +kernel
theorem mC_32 : mMC 32 = 0 := by decide +kernel
theorem mS_32 : mMS 32 = 0 := by decide +kernel
theorem mI_32 : mI 32 = 6 := by decide +kernel
theorem mR_32 : mR 32 = (some Jvm.ClassFile.FieldType.int) := by decide +kernel
theorem mH_32 : mH 32 = [] := by decide +kernel
theorem CL_32 (x : Cx) (w : Wd) (K : Po) (v0 : Value) : CL x 32 [v0] w K = WP x 32 0 [some v0] [] w 0 0 K := by
  unfold CL
  rw [mL_32, mC_32, mS_32]
  rfl
theorem mL_33 : mL 33 = 1 := by decide +kernel
theorem mC_33 : mMC 33 = 0 := by decide +kernel
theorem mS_33 : mMS 33 = 0 := by decide +kernel
theorem mI_33 : mI 33 = 6 := by decide +kernel
theorem mR_33 : mR 33 = (some Jvm.ClassFile.FieldType.int) := by decide +kernel
theorem mH_33 : mH 33 = [] := by decide +kernel
theorem CL_33 (x : Cx) (w : Wd) (K : Po) (v0 : Value) : CL x 33 [v0] w K = WP x 33 0 [some v0] [] w 0 0 K := by
  unfold CL
  rw [mL_33, mC_33, mS_33]
  rfl
theorem mL_34 : mL 34 = 4 := by decide +kernel
theorem mC_34 : mMC 34 = 0 := by decide +kernel
theorem mS_34 : mMS 34 = 0 := by decide +kernel
theorem mI_34 : mI 34 = 6 := by decide +kernel
theorem mR_34 : mR 34 = (some Jvm.ClassFile.FieldType.boolean) := by decide +kernel
theorem mH_34 : mH 34 = [] := by decide +kernel
theorem CL_34 (x : Cx) (w : Wd) (K : Po) (v0 : Value) (v1 : Value) : CL x 34 [v0, v1] w K = WP x 34 0 [some v0, some v1, none, none] [] w 0 0 K := by
  unfold CL
  rw [mL_34, mC_34, mS_34]
  rfl
theorem mL_35 : mL 35 = 7 := by decide +kernel
theorem mC_35 : mMC 35 = 0 := by decide +kernel
theorem mS_35 : mMS 35 = 0 := by decide +kernel
theorem mI_35 : mI 35 = 6 := by decide +kernel
theorem mR_35 : mR 35 = (some Jvm.ClassFile.FieldType.boolean) := by decide +kernel
theorem mH_35 : mH 35 = [] := by decide +kernel
theorem CL_35 (x : Cx) (w : Wd) (K : Po) (v0 : Value) (v1 : Value) (v2 : Value) (v3 : Value) : CL x 35 [v0, v1, v2, v3] w K = WP x 35 0 [some v0, some v1, some v2, some v3, none, none, none] [] w 0 0 K := by
  unfold CL
  rw [mL_35, mC_35, mS_35]
  rfl
theorem mL_36 : mL 36 = 2 := by decide +kernel
theorem mC_36 : mMC 36 = 0 := by decide +kernel
theorem mS_36 : mMS 36 = 0 := by decide +kernel
theorem mI_36 : mI 36 = 6 := by decide +kernel
theorem mR_36 : mR 36 = (some Jvm.ClassFile.FieldType.int) := by decide +kernel
theorem mH_36 : mH 36 = [] := by decide +kernel
theorem CL_36 (x : Cx) (w : Wd) (K : Po) (v0 : Value) (v1 : Value) : CL x 36 [v0, v1] w K = WP x 36 0 [some v0, some v1] [] w 0 0 K := by
  unfold CL
  rw [mL_36, mC_36, mS_36]
  rfl
theorem mL_37 : mL 37 = 3 := by decide +kernel
theorem mC_37 : mMC 37 = 0 := by decide +kernel
theorem mS_37 : mMS 37 = 0 := by decide +kernel
theorem mI_37 : mI 37 = 6 := by decide +kernel
theorem mR_37 : mR 37 = none := by decide +kernel
theorem mH_37 : mH 37 = [] := by decide +kernel
theorem CL_37 (x : Cx) (w : Wd) (K : Po) (v0 : Value) (v1 : Value) (v2 : Value) : CL x 37 [v0, v1, v2] w K = WP x 37 0 [some v0, some v1, some v2] [] w 0 0 K := by
  unfold CL
  rw [mL_37, mC_37, mS_37]
  rfl
theorem mL_38 : mL 38 = 2 := by decide +kernel
theorem mC_38 : mMC 38 = 0 := by decide +kernel
theorem mS_38 : mMS 38 = 0 := by decide +kernel
theorem mI_38 : mI 38 = 6 := by decide +kernel
theorem mR_38 : mR 38 = none := by decide +kernel
theorem mH_38 : mH 38 = [] := by decide +kernel
theorem CL_38 (x : Cx) (w : Wd) (K : Po) (v0 : Value) (v1 : Value) : CL x 38 [v0, v1] w K = WP x 38 0 [some v0, some v1] [] w 0 0 K := by
  unfold CL
  rw [mL_38, mC_38, mS_38]
  rfl
theorem mL_39 : mL 39 = 1 := by decide +kernel
theorem mC_39 : mMC 39 = 2 := by decide +kernel
theorem mS_39 : mMS 39 = 12 := by decide +kernel
theorem mI_39 : mI 39 = 4 := by decide +kernel
theorem mR_39 : mR 39 = none := by decide +kernel
theorem mH_39 : mH 39 = [] := by decide +kernel
theorem CL_39 (x : Cx) (w : Wd) (K : Po) (v0 : Value) : CL x 39 [v0] w K = WP x 39 0 [some v0] [] w 2 12 K := by
  unfold CL
  rw [mL_39, mC_39, mS_39]
  rfl
theorem mL_40 : mL 40 = 1 := by decide +kernel
theorem mC_40 : mMC 40 = 0 := by decide +kernel
theorem mS_40 : mMS 40 = 0 := by decide +kernel
theorem mI_40 : mI 40 = 4 := by decide +kernel
theorem mR_40 : mR 40 = (some Jvm.ClassFile.FieldType.int) := by decide +kernel
theorem mH_40 : mH 40 = [] := by decide +kernel
theorem CL_40 (x : Cx) (w : Wd) (K : Po) (v0 : Value) : CL x 40 [v0] w K = WP x 40 0 [some v0] [] w 0 0 K := by
  unfold CL
  rw [mL_40, mC_40, mS_40]
  rfl
theorem mL_41 : mL 41 = 2 := by decide +kernel
theorem mC_41 : mMC 41 = 0 := by decide +kernel
theorem mS_41 : mMS 41 = 0 := by decide +kernel
theorem mI_41 : mI 41 = 4 := by decide +kernel
theorem mR_41 : mR 41 = (some Jvm.ClassFile.FieldType.int) := by decide +kernel
theorem mH_41 : mH 41 = [] := by decide +kernel
theorem CL_41 (x : Cx) (w : Wd) (K : Po) (v0 : Value) (v1 : Value) : CL x 41 [v0, v1] w K = WP x 41 0 [some v0, some v1] [] w 0 0 K := by
  unfold CL
  rw [mL_41, mC_41, mS_41]
  rfl
theorem mL_42 : mL 42 = 2 := by decide +kernel
theorem mC_42 : mMC 42 = 0 := by decide +kernel
theorem mS_42 : mMS 42 = 0 := by decide +kernel
theorem mI_42 : mI 42 = 4 := by decide +kernel
theorem mR_42 : mR 42 = none := by decide +kernel
theorem mH_42 : mH 42 = [] := by decide +kernel
theorem CL_42 (x : Cx) (w : Wd) (K : Po) (v0 : Value) (v1 : Value) : CL x 42 [v0, v1] w K = WP x 42 0 [some v0, some v1] [] w 0 0 K := by
  unfold CL
  rw [mL_42, mC_42, mS_42]
  rfl
theorem mL_43 : mL 43 = 3 := by decide +kernel
theorem mC_43 : mMC 43 = 0 := by decide +kernel
theorem mS_43 : mMS 43 = 0 := by decide +kernel
theorem mI_43 : mI 43 = 4 := by decide +kernel
theorem mR_43 : mR 43 = none := by decide +kernel
theorem mH_43 : mH 43 = [] := by decide +kernel
theorem CL_43 (x : Cx) (w : Wd) (K : Po) (v0 : Value) (v1 : Value) (v2 : Value) : CL x 43 [v0, v1, v2] w K = WP x 43 0 [some v0, some v1, some v2] [] w 0 0 K := by
  unfold CL
  rw [mL_43, mC_43, mS_43]
  rfl
theorem mL_44 : mL 44 = 2 := by decide +kernel
theorem mC_44 : mMC 44 = 0 := by decide +kernel
theorem mS_44 : mMS 44 = 0 := by decide +kernel
theorem mI_44 : mI 44 = 4 := by decide +kernel
theorem mR_44 : mR 44 = none := by decide +kernel
theorem mH_44 : mH 44 = [] := by decide +kernel
theorem CL_44 (x : Cx) (w : Wd) (K : Po) (v0 : Value) (v1 : Value) : CL x 44 [v0, v1] w K = WP x 44 0 [some v0, some v1] [] w 0 0 K := by
  unfold CL
  rw [mL_44, mC_44, mS_44]
  rfl
theorem mL_45 : mL 45 = 2 := by decide +kernel
theorem mC_45 : mMC 45 = 0 := by decide +kernel
theorem mS_45 : mMS 45 = 0 := by decide +kernel
theorem mI_45 : mI 45 = 4 := by decide +kernel
theorem mR_45 : mR 45 = (some Jvm.ClassFile.FieldType.boolean) := by decide +kernel
theorem mH_45 : mH 45 = [] := by decide +kernel
theorem CL_45 (x : Cx) (w : Wd) (K : Po) (v0 : Value) (v1 : Value) : CL x 45 [v0, v1] w K = WP x 45 0 [some v0, some v1] [] w 0 0 K := by
  unfold CL
  rw [mL_45, mC_45, mS_45]
  rfl
theorem mL_46 : mL 46 = 1 := by decide +kernel
theorem mC_46 : mMC 46 = 0 := by decide +kernel
theorem mS_46 : mMS 46 = 0 := by decide +kernel
theorem mI_46 : mI 46 = 4 := by decide +kernel
theorem mR_46 : mR 46 = (some Jvm.ClassFile.FieldType.int) := by decide +kernel
theorem mH_46 : mH 46 = [] := by decide +kernel
theorem CL_46 (x : Cx) (w : Wd) (K : Po) (v0 : Value) : CL x 46 [v0] w K = WP x 46 0 [some v0] [] w 0 0 K := by
  unfold CL
  rw [mL_46, mC_46, mS_46]
  rfl
theorem mL_47 : mL 47 = 2 := by decide +kernel
theorem mC_47 : mMC 47 = 0 := by decide +kernel
theorem mS_47 : mMS 47 = 0 := by decide +kernel
theorem mI_47 : mI 47 = 4 := by decide +kernel
theorem mR_47 : mR 47 = (some Jvm.ClassFile.FieldType.int) := by decide +kernel
theorem mH_47 : mH 47 = [] := by decide +kernel
theorem CL_47 (x : Cx) (w : Wd) (K : Po) (v0 : Value) (v1 : Value) : CL x 47 [v0, v1] w K = WP x 47 0 [some v0, some v1] [] w 0 0 K := by
  unfold CL
  rw [mL_47, mC_47, mS_47]
  rfl
theorem mL_48 : mL 48 = 3 := by decide +kernel
theorem mC_48 : mMC 48 = 0 := by decide +kernel
theorem mS_48 : mMS 48 = 0 := by decide +kernel
theorem mI_48 : mI 48 = 4 := by decide +kernel
theorem mR_48 : mR 48 = none := by decide +kernel
theorem mH_48 : mH 48 = [] := by decide +kernel
theorem CL_48 (x : Cx) (w : Wd) (K : Po) (v0 : Value) (v1 : Value) (v2 : Value) : CL x 48 [v0, v1, v2] w K = WP x 48 0 [some v0, some v1, some v2] [] w 0 0 K := by
  unfold CL
  rw [mL_48, mC_48, mS_48]
  rfl
theorem mL_49 : mL 49 = 4 := by decide +kernel
theorem mC_49 : mMC 49 = 0 := by decide +kernel
theorem mS_49 : mMS 49 = 0 := by decide +kernel
theorem mI_49 : mI 49 = 4 := by decide +kernel
theorem mR_49 : mR 49 = (some Jvm.ClassFile.FieldType.boolean) := by decide +kernel
theorem mH_49 : mH 49 = [] := by decide +kernel
theorem CL_49 (x : Cx) (w : Wd) (K : Po) (v0 : Value) (v1 : Value) (v2 : Value) : CL x 49 [v0, v1, v2] w K = WP x 49 0 [some v0, some v1, some v2, none] [] w 0 0 K := by
  unfold CL
  rw [mL_49, mC_49, mS_49]
  rfl
theorem mL_50 : mL 50 = 4 := by decide +kernel
theorem mC_50 : mMC 50 = 0 := by decide +kernel
theorem mS_50 : mMS 50 = 0 := by decide +kernel
theorem mI_50 : mI 50 = 4 := by decide +kernel
theorem mR_50 : mR 50 = (some Jvm.ClassFile.FieldType.boolean) := by decide +kernel
theorem mH_50 : mH 50 = [] := by decide +kernel
theorem CL_50 (x : Cx) (w : Wd) (K : Po) (v0 : Value) (v1 : Value) (v2 : Value) : CL x 50 [v0, v1, v2] w K = WP x 50 0 [some v0, some v1, some v2, none] [] w 0 0 K := by
  unfold CL
  rw [mL_50, mC_50, mS_50]
  rfl
theorem mL_51 : mL 51 = 9 := by decide +kernel
theorem mC_51 : mMC 51 = 0 := by decide +kernel
theorem mS_51 : mMS 51 = 0 := by decide +kernel
theorem mI_51 : mI 51 = 4 := by decide +kernel
theorem mR_51 : mR 51 = (some Jvm.ClassFile.FieldType.int) := by decide +kernel
theorem mH_51 : mH 51 = [] := by decide +kernel
theorem CL_51 (x : Cx) (w : Wd) (K : Po) (v0 : Value) (v1 : Value) (v2 : Value) : CL x 51 [v0, v1, v2] w K = WP x 51 0 [some v0, some v1, some v2, none, none, none, none, none, none] [] w 0 0 K := by
  unfold CL
  rw [mL_51, mC_51, mS_51]
  rfl
theorem mL_52 : mL 52 = 1 := by decide +kernel
theorem mC_52 : mMC 52 = 1 := by decide +kernel
theorem mS_52 : mMS 52 = 3 := by decide +kernel
theorem mI_52 : mI 52 = 2 := by decide +kernel
theorem mR_52 : mR 52 = none := by decide +kernel
theorem mH_52 : mH 52 = [] := by decide +kernel
theorem CL_52 (x : Cx) (w : Wd) (K : Po) (v0 : Value) : CL x 52 [v0] w K = WP x 52 0 [some v0] [] w 1 3 K := by
  unfold CL
  rw [mL_52, mC_52, mS_52]
  rfl
theorem mL_53 : mL 53 = 1 := by decide +kernel
theorem mC_53 : mMC 53 = 0 := by decide +kernel
theorem mS_53 : mMS 53 = 0 := by decide +kernel
theorem mI_53 : mI 53 = 2 := by decide +kernel
theorem mR_53 : mR 53 = (some Jvm.ClassFile.FieldType.int) := by decide +kernel
theorem mH_53 : mH 53 = [] := by decide +kernel
theorem CL_53 (x : Cx) (w : Wd) (K : Po) (v0 : Value) : CL x 53 [v0] w K = WP x 53 0 [some v0] [] w 0 0 K := by
  unfold CL
  rw [mL_53, mC_53, mS_53]
  rfl
theorem mL_54 : mL 54 = 2 := by decide +kernel
theorem mC_54 : mMC 54 = 0 := by decide +kernel
theorem mS_54 : mMS 54 = 0 := by decide +kernel
theorem mI_54 : mI 54 = 2 := by decide +kernel
theorem mR_54 : mR 54 = (some (Jvm.ClassFile.FieldType.object "SheetMaker$Name")) := by decide +kernel
theorem mH_54 : mH 54 = [] := by decide +kernel
theorem CL_54 (x : Cx) (w : Wd) (K : Po) (v0 : Value) (v1 : Value) : CL x 54 [v0, v1] w K = WP x 54 0 [some v0, some v1] [] w 0 0 K := by
  unfold CL
  rw [mL_54, mC_54, mS_54]
  rfl
theorem mL_55 : mL 55 = 2 := by decide +kernel
theorem mC_55 : mMC 55 = 1 := by decide +kernel
theorem mS_55 : mMS 55 = 10 := by decide +kernel
theorem mI_55 : mI 55 = 2 := by decide +kernel
theorem mR_55 : mR 55 = none := by decide +kernel
theorem mH_55 : mH 55 = [] := by decide +kernel
theorem CL_55 (x : Cx) (w : Wd) (K : Po) (v0 : Value) (v1 : Value) : CL x 55 [v0, v1] w K = WP x 55 0 [some v0, some v1] [] w 1 10 K := by
  unfold CL
  rw [mL_55, mC_55, mS_55]
  rfl
theorem mL_56 : mL 56 = 6 := by decide +kernel
theorem mC_56 : mMC 56 = 0 := by decide +kernel
theorem mS_56 : mMS 56 = 0 := by decide +kernel
theorem mI_56 : mI 56 = 2 := by decide +kernel
theorem mR_56 : mR 56 = none := by decide +kernel
theorem mH_56 : mH 56 = [] := by decide +kernel
theorem CL_56 (x : Cx) (w : Wd) (K : Po) (v0 : Value) (v1 : Value) (v2 : Value) : CL x 56 [v0, v1, v2] w K = WP x 56 0 [some v0, some v1, some v2, none, none, none] [] w 0 0 K := by
  unfold CL
  rw [mL_56, mC_56, mS_56]
  rfl
theorem mL_57 : mL 57 = 9 := by decide +kernel
theorem mC_57 : mMC 57 = 0 := by decide +kernel
theorem mS_57 : mMS 57 = 0 := by decide +kernel
theorem mI_57 : mI 57 = 2 := by decide +kernel
theorem mR_57 : mR 57 = none := by decide +kernel
theorem mH_57 : mH 57 = [] := by decide +kernel
theorem CL_57 (x : Cx) (w : Wd) (K : Po) (v0 : Value) (v1 : Value) (v2 : Value) (v3 : Value) (v4 : Value) : CL x 57 [v0, v1, v2, v3, v4] w K = WP x 57 0 [some v0, some v1, some v2, some v3, some v4, none, none, none, none] [] w 0 0 K := by
  unfold CL
  rw [mL_57, mC_57, mS_57]
  rfl
theorem mL_58 : mL 58 = 6 := by decide +kernel
theorem mC_58 : mMC 58 = 0 := by decide +kernel
theorem mS_58 : mMS 58 = 0 := by decide +kernel
theorem mI_58 : mI 58 = 2 := by decide +kernel
theorem mR_58 : mR 58 = (some Jvm.ClassFile.FieldType.int) := by decide +kernel
theorem mH_58 : mH 58 = [] := by decide +kernel
theorem CL_58 (x : Cx) (w : Wd) (K : Po) (v0 : Value) (v1 : Value) (v2 : Value) (v3 : Value) : CL x 58 [v0, v1, v2, v3] w K = WP x 58 0 [some v0, some v1, some v2, some v3, none, none] [] w 0 0 K := by
  unfold CL
  rw [mL_58, mC_58, mS_58]
  rfl
theorem mL_59 : mL 59 = 1 := by decide +kernel
theorem mC_59 : mMC 59 = 1 := by decide +kernel
theorem mS_59 : mMS 59 = 3 := by decide +kernel
theorem mI_59 : mI 59 = 5 := by decide +kernel
theorem mR_59 : mR 59 = none := by decide +kernel
theorem mH_59 : mH 59 = [] := by decide +kernel
theorem CL_59 (x : Cx) (w : Wd) (K : Po) (v0 : Value) : CL x 59 [v0] w K = WP x 59 0 [some v0] [] w 1 3 K := by
  unfold CL
  rw [mL_59, mC_59, mS_59]
  rfl
theorem mL_60 : mL 60 = 1 := by decide +kernel
theorem mC_60 : mMC 60 = 0 := by decide +kernel
theorem mS_60 : mMS 60 = 0 := by decide +kernel
theorem mI_60 : mI 60 = 5 := by decide +kernel
theorem mR_60 : mR 60 = (some Jvm.ClassFile.FieldType.int) := by decide +kernel
theorem mH_60 : mH 60 = [] := by decide +kernel
theorem CL_60 (x : Cx) (w : Wd) (K : Po) (v0 : Value) : CL x 60 [v0] w K = WP x 60 0 [some v0] [] w 0 0 K := by
  unfold CL
  rw [mL_60, mC_60, mS_60]
  rfl
theorem mL_61 : mL 61 = 2 := by decide +kernel
theorem mC_61 : mMC 61 = 0 := by decide +kernel
theorem mS_61 : mMS 61 = 0 := by decide +kernel
theorem mI_61 : mI 61 = 5 := by decide +kernel
theorem mR_61 : mR 61 = (some (Jvm.ClassFile.FieldType.object "SheetMaker$Road")) := by decide +kernel
theorem mH_61 : mH 61 = [] := by decide +kernel
theorem CL_61 (x : Cx) (w : Wd) (K : Po) (v0 : Value) (v1 : Value) : CL x 61 [v0, v1] w K = WP x 61 0 [some v0, some v1] [] w 0 0 K := by
  unfold CL
  rw [mL_61, mC_61, mS_61]
  rfl
theorem mL_62 : mL 62 = 2 := by decide +kernel
theorem mC_62 : mMC 62 = 1 := by decide +kernel
theorem mS_62 : mMS 62 = 10 := by decide +kernel
theorem mI_62 : mI 62 = 5 := by decide +kernel
theorem mR_62 : mR 62 = none := by decide +kernel
theorem mH_62 : mH 62 = [] := by decide +kernel
theorem CL_62 (x : Cx) (w : Wd) (K : Po) (v0 : Value) (v1 : Value) : CL x 62 [v0, v1] w K = WP x 62 0 [some v0, some v1] [] w 1 10 K := by
  unfold CL
  rw [mL_62, mC_62, mS_62]
  rfl
theorem mL_63 : mL 63 = 4 := by decide +kernel
theorem mC_63 : mMC 63 = 0 := by decide +kernel
theorem mS_63 : mMS 63 = 0 := by decide +kernel
theorem mI_63 : mI 63 = 5 := by decide +kernel
theorem mR_63 : mR 63 = none := by decide +kernel
theorem mH_63 : mH 63 = [] := by decide +kernel
theorem CL_63 (x : Cx) (w : Wd) (K : Po) (v0 : Value) : CL x 63 [v0] w K = WP x 63 0 [some v0, none, none, none] [] w 0 0 K := by
  unfold CL
  rw [mL_63, mC_63, mS_63]
  rfl
theorem mL_64 : mL 64 = 6 := by decide +kernel
theorem mC_64 : mMC 64 = 0 := by decide +kernel
theorem mS_64 : mMS 64 = 0 := by decide +kernel
theorem mI_64 : mI 64 = 5 := by decide +kernel
theorem mR_64 : mR 64 = (some Jvm.ClassFile.FieldType.int) := by decide +kernel
theorem mH_64 : mH 64 = [] := by decide +kernel
theorem CL_64 (x : Cx) (w : Wd) (K : Po) (v0 : Value) (v1 : Value) (v2 : Value) : CL x 64 [v0, v1, v2] w K = WP x 64 0 [some v0, some v1, some v2, none, none, none] [] w 0 0 K := by
  unfold CL
  rw [mL_64, mC_64, mS_64]
  rfl
theorem mL_65 : mL 65 = 8 := by decide +kernel
theorem mC_65 : mMC 65 = 0 := by decide +kernel
theorem mS_65 : mMS 65 = 0 := by decide +kernel
theorem mI_65 : mI 65 = 5 := by decide +kernel
theorem mR_65 : mR 65 = (some Jvm.ClassFile.FieldType.int) := by decide +kernel
theorem mH_65 : mH 65 = [] := by decide +kernel
theorem CL_65 (x : Cx) (w : Wd) (K : Po) (v0 : Value) (v1 : Value) (v2 : Value) (v3 : Value) : CL x 65 [v0, v1, v2, v3] w K = WP x 65 0 [some v0, some v1, some v2, some v3, none, none, none, none] [] w 0 0 K := by
  unfold CL
  rw [mL_65, mC_65, mS_65]
  rfl
theorem mL_66 : mL 66 = 7 := by decide +kernel
theorem mC_66 : mMC 66 = 0 := by decide +kernel
theorem mS_66 : mMS 66 = 0 := by decide +kernel
theorem mI_66 : mI 66 = 5 := by decide +kernel
theorem mR_66 : mR 66 = (some Jvm.ClassFile.FieldType.boolean) := by decide +kernel
theorem mH_66 : mH 66 = [] := by decide +kernel
theorem CL_66 (x : Cx) (w : Wd) (K : Po) (v0 : Value) (v1 : Value) (v2 : Value) (v3 : Value) : CL x 66 [v0, v1, v2, v3] w K = WP x 66 0 [some v0, some v1, some v2, some v3, none, none, none] [] w 0 0 K := by
  unfold CL
  rw [mL_66, mC_66, mS_66]
  rfl
theorem mL_67 : mL 67 = 7 := by decide +kernel
theorem mC_67 : mMC 67 = 0 := by decide +kernel
theorem mS_67 : mMS 67 = 0 := by decide +kernel
theorem mI_67 : mI 67 = 5 := by decide +kernel
theorem mR_67 : mR 67 = (some Jvm.ClassFile.FieldType.int) := by decide +kernel
theorem mH_67 : mH 67 = [] := by decide +kernel
theorem CL_67 (x : Cx) (w : Wd) (K : Po) (v0 : Value) (v1 : Value) : CL x 67 [v0, v1] w K = WP x 67 0 [some v0, some v1, none, none, none, none, none] [] w 0 0 K := by
  unfold CL
  rw [mL_67, mC_67, mS_67]
  rfl
theorem mL_68 : mL 68 = 8 := by decide +kernel
theorem mC_68 : mMC 68 = 0 := by decide +kernel
theorem mS_68 : mMS 68 = 0 := by decide +kernel
theorem mI_68 : mI 68 = 5 := by decide +kernel
theorem mR_68 : mR 68 = (some Jvm.ClassFile.FieldType.int) := by decide +kernel
theorem mH_68 : mH 68 = [] := by decide +kernel
theorem CL_68 (x : Cx) (w : Wd) (K : Po) (v0 : Value) (v1 : Value) : CL x 68 [v0, v1] w K = WP x 68 0 [some v0, some v1, none, none, none, none, none, none] [] w 0 0 K := by
  unfold CL
  rw [mL_68, mC_68, mS_68]
  rfl
theorem mL_69 : mL 69 = 5 := by decide +kernel
theorem mC_69 : mMC 69 = 0 := by decide +kernel
theorem mS_69 : mMS 69 = 0 := by decide +kernel
theorem mI_69 : mI 69 = 5 := by decide +kernel
theorem mR_69 : mR 69 = (some Jvm.ClassFile.FieldType.boolean) := by decide +kernel
theorem mH_69 : mH 69 = [] := by decide +kernel
theorem CL_69 (x : Cx) (w : Wd) (K : Po) (v0 : Value) (v1 : Value) (v2 : Value) (v3 : Value) : CL x 69 [v0, v1, v2, v3] w K = WP x 69 0 [some v0, some v1, some v2, some v3, none] [] w 0 0 K := by
  unfold CL
  rw [mL_69, mC_69, mS_69]
  rfl
theorem mL_70 : mL 70 = 6 := by decide +kernel
theorem mC_70 : mMC 70 = 0 := by decide +kernel
theorem mS_70 : mMS 70 = 0 := by decide +kernel
theorem mI_70 : mI 70 = 5 := by decide +kernel
theorem mR_70 : mR 70 = none := by decide +kernel
theorem mH_70 : mH 70 = [] := by decide +kernel
theorem CL_70 (x : Cx) (w : Wd) (K : Po) (v0 : Value) (v1 : Value) (v2 : Value) : CL x 70 [v0, v1, v2] w K = WP x 70 0 [some v0, some v1, some v2, none, none, none] [] w 0 0 K := by
  unfold CL
  rw [mL_70, mC_70, mS_70]
  rfl
theorem mL_71 : mL 71 = 6 := by decide +kernel
theorem mC_71 : mMC 71 = 0 := by decide +kernel
theorem mS_71 : mMS 71 = 0 := by decide +kernel
theorem mI_71 : mI 71 = 5 := by decide +kernel
theorem mR_71 : mR 71 = none := by decide +kernel
theorem mH_71 : mH 71 = [] := by decide +kernel
theorem CL_71 (x : Cx) (w : Wd) (K : Po) (v0 : Value) (v1 : Value) (v2 : Value) (v3 : Value) : CL x 71 [v0, v1, v2, v3] w K = WP x 71 0 [some v0, some v1, some v2, some v3, none, none] [] w 0 0 K := by
  unfold CL
  rw [mL_71, mC_71, mS_71]
  rfl
theorem mL_72 : mL 72 = 1 := by decide +kernel
theorem mC_72 : mMC 72 = 12 := by decide +kernel
theorem mS_72 : mMS 72 = 114 := by decide +kernel
theorem mI_72 : mI 72 = 7 := by decide +kernel
theorem mR_72 : mR 72 = none := by decide +kernel
theorem mH_72 : mH 72 = [] := by decide +kernel
theorem CL_72 (x : Cx) (w : Wd) (K : Po) (v0 : Value) : CL x 72 [v0] w K = WP x 72 0 [some v0] [] w 12 114 K := by
  unfold CL
  rw [mL_72, mC_72, mS_72]
  rfl
theorem mL_73 : mL 73 = 4 := by decide +kernel
theorem mC_73 : mMC 73 = 3 := by decide +kernel
theorem mS_73 : mMS 73 = 18 := by decide +kernel
theorem mI_73 : mI 73 = 7 := by decide +kernel
theorem mR_73 : mR 73 = (some Jvm.ClassFile.FieldType.int) := by decide +kernel
theorem mH_73 : mH 73 = [] := by decide +kernel
theorem CL_73 (x : Cx) (w : Wd) (K : Po) (v0 : Value) (v1 : Value) (v2 : Value) : CL x 73 [v0, v1, v2] w K = WP x 73 0 [some v0, some v1, some v2, none] [] w 3 18 K := by
  unfold CL
  rw [mL_73, mC_73, mS_73]
  rfl
theorem mL_74 : mL 74 = 2 := by decide +kernel
theorem mC_74 : mMC 74 = 6 := by decide +kernel
theorem mS_74 : mMS 74 = 38 := by decide +kernel
theorem mI_74 : mI 74 = 7 := by decide +kernel
theorem mR_74 : mR 74 = (some Jvm.ClassFile.FieldType.int) := by decide +kernel
theorem mH_74 : mH 74 = [] := by decide +kernel
theorem CL_74 (x : Cx) (w : Wd) (K : Po) (v0 : Value) (v1 : Value) : CL x 74 [v0, v1] w K = WP x 74 0 [some v0, some v1] [] w 6 38 K := by
  unfold CL
  rw [mL_74, mC_74, mS_74]
  rfl
theorem mL_75 : mL 75 = 7 := by decide +kernel
theorem mC_75 : mMC 75 = 4 := by decide +kernel
theorem mS_75 : mMS 75 = 24 := by decide +kernel
theorem mI_75 : mI 75 = 7 := by decide +kernel
theorem mR_75 : mR 75 = (some Jvm.ClassFile.FieldType.int) := by decide +kernel
theorem mH_75 : mH 75 = [] := by decide +kernel
theorem CL_75 (x : Cx) (w : Wd) (K : Po) (v0 : Value) (v1 : Value) (v2 : Value) (v3 : Value) (v4 : Value) : CL x 75 [v0, v1, v2, v3, v4] w K = WP x 75 0 [some v0, some v1, some v2, some v3, some v4, none, none] [] w 4 24 K := by
  unfold CL
  rw [mL_75, mC_75, mS_75]
  rfl
theorem mL_76 : mL 76 = 5 := by decide +kernel
theorem mC_76 : mMC 76 = 7 := by decide +kernel
theorem mS_76 : mMS 76 = 44 := by decide +kernel
theorem mI_76 : mI 76 = 7 := by decide +kernel
theorem mR_76 : mR 76 = (some Jvm.ClassFile.FieldType.int) := by decide +kernel
theorem mH_76 : mH 76 = [] := by decide +kernel
theorem CL_76 (x : Cx) (w : Wd) (K : Po) (v0 : Value) (v1 : Value) (v2 : Value) (v3 : Value) (v4 : Value) : CL x 76 [v0, v1, v2, v3, v4] w K = WP x 76 0 [some v0, some v1, some v2, some v3, some v4] [] w 7 44 K := by
  unfold CL
  rw [mL_76, mC_76, mS_76]
  rfl
theorem mL_77 : mL 77 = 5 := by decide +kernel
theorem mC_77 : mMC 77 = 3 := by decide +kernel
theorem mS_77 : mMS 77 = 18 := by decide +kernel
theorem mI_77 : mI 77 = 7 := by decide +kernel
theorem mR_77 : mR 77 = (some Jvm.ClassFile.FieldType.int) := by decide +kernel
theorem mH_77 : mH 77 = [] := by decide +kernel
theorem CL_77 (x : Cx) (w : Wd) (K : Po) (v0 : Value) (v1 : Value) (v2 : Value) (v3 : Value) : CL x 77 [v0, v1, v2, v3] w K = WP x 77 0 [some v0, some v1, some v2, some v3, none] [] w 3 18 K := by
  unfold CL
  rw [mL_77, mC_77, mS_77]
  rfl
theorem mL_78 : mL 78 = 4 := by decide +kernel
theorem mC_78 : mMC 78 = 2 := by decide +kernel
theorem mS_78 : mMS 78 = 12 := by decide +kernel
theorem mI_78 : mI 78 = 7 := by decide +kernel
theorem mR_78 : mR 78 = (some Jvm.ClassFile.FieldType.int) := by decide +kernel
theorem mH_78 : mH 78 = [] := by decide +kernel
theorem CL_78 (x : Cx) (w : Wd) (K : Po) (v0 : Value) (v1 : Value) (v2 : Value) : CL x 78 [v0, v1, v2] w K = WP x 78 0 [some v0, some v1, some v2, none] [] w 2 12 K := by
  unfold CL
  rw [mL_78, mC_78, mS_78]
  rfl
theorem mL_79 : mL 79 = 4 := by decide +kernel
theorem mC_79 : mMC 79 = 2 := by decide +kernel
theorem mS_79 : mMS 79 = 12 := by decide +kernel
theorem mI_79 : mI 79 = 7 := by decide +kernel
theorem mR_79 : mR 79 = (some Jvm.ClassFile.FieldType.int) := by decide +kernel
theorem mH_79 : mH 79 = [] := by decide +kernel
theorem CL_79 (x : Cx) (w : Wd) (K : Po) (v0 : Value) (v1 : Value) (v2 : Value) : CL x 79 [v0, v1, v2] w K = WP x 79 0 [some v0, some v1, some v2, none] [] w 2 12 K := by
  unfold CL
  rw [mL_79, mC_79, mS_79]
  rfl
theorem mL_80 : mL 80 = 2 := by decide +kernel
theorem mC_80 : mMC 80 = 1 := by decide +kernel
theorem mS_80 : mMS 80 = 6 := by decide +kernel
theorem mI_80 : mI 80 = 7 := by decide +kernel
theorem mR_80 : mR 80 = (some Jvm.ClassFile.FieldType.int) := by decide +kernel
theorem mH_80 : mH 80 = [] := by decide +kernel
theorem CL_80 (x : Cx) (w : Wd) (K : Po) (v0 : Value) (v1 : Value) : CL x 80 [v0, v1] w K = WP x 80 0 [some v0, some v1] [] w 1 6 K := by
  unfold CL
  rw [mL_80, mC_80, mS_80]
  rfl
theorem mL_81 : mL 81 = 2 := by decide +kernel
theorem mC_81 : mMC 81 = 1 := by decide +kernel
theorem mS_81 : mMS 81 = 6 := by decide +kernel
theorem mI_81 : mI 81 = 7 := by decide +kernel
theorem mR_81 : mR 81 = (some Jvm.ClassFile.FieldType.int) := by decide +kernel
theorem mH_81 : mH 81 = [] := by decide +kernel
theorem CL_81 (x : Cx) (w : Wd) (K : Po) (v0 : Value) (v1 : Value) : CL x 81 [v0, v1] w K = WP x 81 0 [some v0, some v1] [] w 1 6 K := by
  unfold CL
  rw [mL_81, mC_81, mS_81]
  rfl
theorem mL_82 : mL 82 = 7 := by decide +kernel
theorem mC_82 : mMC 82 = 13 := by decide +kernel
theorem mS_82 : mMS 82 = 148 := by decide +kernel
theorem mI_82 : mI 82 = 7 := by decide +kernel
theorem mR_82 : mR 82 = (some Jvm.ClassFile.FieldType.int) := by decide +kernel
theorem mH_82 : mH 82 = [] := by decide +kernel
theorem CL_82 (x : Cx) (w : Wd) (K : Po) (v0 : Value) (v1 : Value) (v2 : Value) (v3 : Value) (v4 : Value) (v5 : Value) (v6 : Value) : CL x 82 [v0, v1, v2, v3, v4, v5, v6] w K = WP x 82 0 [some v0, some v1, some v2, some v3, some v4, some v5, some v6] [] w 13 148 K := by
  unfold CL
  rw [mL_82, mC_82, mS_82]
  rfl
theorem mL_83 : mL 83 = 4 := by decide +kernel
theorem mC_83 : mMC 83 = 2 := by decide +kernel
theorem mS_83 : mMS 83 = 12 := by decide +kernel
theorem mI_83 : mI 83 = 7 := by decide +kernel
theorem mR_83 : mR 83 = (some Jvm.ClassFile.FieldType.int) := by decide +kernel
theorem mH_83 : mH 83 = [] := by decide +kernel
theorem CL_83 (x : Cx) (w : Wd) (K : Po) (v0 : Value) (v1 : Value) (v2 : Value) : CL x 83 [v0, v1, v2] w K = WP x 83 0 [some v0, some v1, some v2, none] [] w 2 12 K := by
  unfold CL
  rw [mL_83, mC_83, mS_83]
  rfl
theorem mL_84 : mL 84 = 5 := by decide +kernel
theorem mC_84 : mMC 84 = 3 := by decide +kernel
theorem mS_84 : mMS 84 = 18 := by decide +kernel
theorem mI_84 : mI 84 = 7 := by decide +kernel
theorem mR_84 : mR 84 = (some Jvm.ClassFile.FieldType.int) := by decide +kernel
theorem mH_84 : mH 84 = [] := by decide +kernel
theorem CL_84 (x : Cx) (w : Wd) (K : Po) (v0 : Value) (v1 : Value) (v2 : Value) (v3 : Value) : CL x 84 [v0, v1, v2, v3] w K = WP x 84 0 [some v0, some v1, some v2, some v3, none] [] w 3 18 K := by
  unfold CL
  rw [mL_84, mC_84, mS_84]
  rfl
theorem mL_85 : mL 85 = 5 := by decide +kernel
theorem mC_85 : mMC 85 = 3 := by decide +kernel
theorem mS_85 : mMS 85 = 18 := by decide +kernel
theorem mI_85 : mI 85 = 7 := by decide +kernel
theorem mR_85 : mR 85 = (some Jvm.ClassFile.FieldType.int) := by decide +kernel
theorem mH_85 : mH 85 = [] := by decide +kernel
theorem CL_85 (x : Cx) (w : Wd) (K : Po) (v0 : Value) (v1 : Value) (v2 : Value) : CL x 85 [v0, v1, v2] w K = WP x 85 0 [some v0, some v1, some v2, none, none] [] w 3 18 K := by
  unfold CL
  rw [mL_85, mC_85, mS_85]
  rfl
theorem mL_86 : mL 86 = 4 := by decide +kernel
theorem mC_86 : mMC 86 = 3 := by decide +kernel
theorem mS_86 : mMS 86 = 18 := by decide +kernel
theorem mI_86 : mI 86 = 7 := by decide +kernel
theorem mR_86 : mR 86 = (some Jvm.ClassFile.FieldType.int) := by decide +kernel
theorem mH_86 : mH 86 = [] := by decide +kernel
theorem CL_86 (x : Cx) (w : Wd) (K : Po) (v0 : Value) (v1 : Value) (v2 : Value) : CL x 86 [v0, v1, v2] w K = WP x 86 0 [some v0, some v1, some v2, none] [] w 3 18 K := by
  unfold CL
  rw [mL_86, mC_86, mS_86]
  rfl
theorem mL_87 : mL 87 = 2 := by decide +kernel
theorem mC_87 : mMC 87 = 1 := by decide +kernel
theorem mS_87 : mMS 87 = 6 := by decide +kernel
theorem mI_87 : mI 87 = 7 := by decide +kernel
theorem mR_87 : mR 87 = (some Jvm.ClassFile.FieldType.int) := by decide +kernel
theorem mH_87 : mH 87 = [] := by decide +kernel
theorem CL_87 (x : Cx) (w : Wd) (K : Po) (v0 : Value) (v1 : Value) : CL x 87 [v0, v1] w K = WP x 87 0 [some v0, some v1] [] w 1 6 K := by
  unfold CL
  rw [mL_87, mC_87, mS_87]
  rfl
theorem mL_88 : mL 88 = 2 := by decide +kernel
theorem mC_88 : mMC 88 = 1 := by decide +kernel
theorem mS_88 : mMS 88 = 6 := by decide +kernel
theorem mI_88 : mI 88 = 7 := by decide +kernel
theorem mR_88 : mR 88 = (some Jvm.ClassFile.FieldType.int) := by decide +kernel
theorem mH_88 : mH 88 = [] := by decide +kernel
theorem CL_88 (x : Cx) (w : Wd) (K : Po) (v0 : Value) (v1 : Value) : CL x 88 [v0, v1] w K = WP x 88 0 [some v0, some v1] [] w 1 6 K := by
  unfold CL
  rw [mL_88, mC_88, mS_88]
  rfl
theorem mL_89 : mL 89 = 4 := by decide +kernel
theorem mC_89 : mMC 89 = 0 := by decide +kernel
theorem mS_89 : mMS 89 = 0 := by decide +kernel
theorem mI_89 : mI 89 = 7 := by decide +kernel
theorem mR_89 : mR 89 = (some Jvm.ClassFile.FieldType.int) := by decide +kernel
theorem mH_89 : mH 89 = [] := by decide +kernel
theorem CL_89 (x : Cx) (w : Wd) (K : Po) (v0 : Value) : CL x 89 [v0] w K = WP x 89 0 [some v0, none, none, none] [] w 0 0 K := by
  unfold CL
  rw [mL_89, mC_89, mS_89]
  rfl
theorem mL_90 : mL 90 = 2 := by decide +kernel
theorem mC_90 : mMC 90 = 0 := by decide +kernel
theorem mS_90 : mMS 90 = 0 := by decide +kernel
theorem mI_90 : mI 90 = 7 := by decide +kernel
theorem mR_90 : mR 90 = (some Jvm.ClassFile.FieldType.int) := by decide +kernel
theorem mH_90 : mH 90 = [] := by decide +kernel
theorem CL_90 (x : Cx) (w : Wd) (K : Po) (v0 : Value) (v1 : Value) : CL x 90 [v0, v1] w K = WP x 90 0 [some v0, some v1] [] w 0 0 K := by
  unfold CL
  rw [mL_90, mC_90, mS_90]
  rfl
theorem mL_91 : mL 91 = 2 := by decide +kernel
theorem mC_91 : mMC 91 = 0 := by decide +kernel
theorem mS_91 : mMS 91 = 0 := by decide +kernel
theorem mI_91 : mI 91 = 7 := by decide +kernel
theorem mR_91 : mR 91 = none := by decide +kernel
theorem mH_91 : mH 91 = [] := by decide +kernel
theorem CL_91 (x : Cx) (w : Wd) (K : Po) (v0 : Value) (v1 : Value) : CL x 91 [v0, v1] w K = WP x 91 0 [some v0, some v1] [] w 0 0 K := by
  unfold CL
  rw [mL_91, mC_91, mS_91]
  rfl
theorem mL_92 : mL 92 = 2 := by decide +kernel
theorem mC_92 : mMC 92 = 1 := by decide +kernel
theorem mS_92 : mMS 92 = 6 := by decide +kernel
theorem mI_92 : mI 92 = 7 := by decide +kernel
theorem mR_92 : mR 92 = (some (Jvm.ClassFile.FieldType.object "SheetMaker$Road")) := by decide +kernel
theorem mH_92 : mH 92 = [] := by decide +kernel
theorem CL_92 (x : Cx) (w : Wd) (K : Po) (v0 : Value) (v1 : Value) : CL x 92 [v0, v1] w K = WP x 92 0 [some v0, some v1] [] w 1 6 K := by
  unfold CL
  rw [mL_92, mC_92, mS_92]
  rfl
theorem mL_93 : mL 93 = 2 := by decide +kernel
theorem mC_93 : mMC 93 = 1 := by decide +kernel
theorem mS_93 : mMS 93 = 6 := by decide +kernel
theorem mI_93 : mI 93 = 7 := by decide +kernel
theorem mR_93 : mR 93 = (some (Jvm.ClassFile.FieldType.object "SheetMaker$Name")) := by decide +kernel
theorem mH_93 : mH 93 = [] := by decide +kernel
theorem CL_93 (x : Cx) (w : Wd) (K : Po) (v0 : Value) (v1 : Value) : CL x 93 [v0, v1] w K = WP x 93 0 [some v0, some v1] [] w 1 6 K := by
  unfold CL
  rw [mL_93, mC_93, mS_93]
  rfl
theorem mL_94 : mL 94 = 2 := by decide +kernel
theorem mC_94 : mMC 94 = 1 := by decide +kernel
theorem mS_94 : mMS 94 = 6 := by decide +kernel
theorem mI_94 : mI 94 = 7 := by decide +kernel
theorem mR_94 : mR 94 = (some (Jvm.ClassFile.FieldType.object "SheetMaker$Sheet")) := by decide +kernel
theorem mH_94 : mH 94 = [] := by decide +kernel
theorem CL_94 (x : Cx) (w : Wd) (K : Po) (v0 : Value) (v1 : Value) : CL x 94 [v0, v1] w K = WP x 94 0 [some v0, some v1] [] w 1 6 K := by
  unfold CL
  rw [mL_94, mC_94, mS_94]
  rfl
theorem mL_95 : mL 95 = 1 := by decide +kernel
theorem mC_95 : mMC 95 = 1 := by decide +kernel
theorem mS_95 : mMS 95 = 6 := by decide +kernel
theorem mI_95 : mI 95 = 7 := by decide +kernel
theorem mR_95 : mR 95 = none := by decide +kernel
theorem mH_95 : mH 95 = [] := by decide +kernel
theorem CL_95 (x : Cx) (w : Wd) (K : Po) (v0 : Value) : CL x 95 [v0] w K = WP x 95 0 [some v0] [] w 1 6 K := by
  unfold CL
  rw [mL_95, mC_95, mS_95]
  rfl
theorem mL_96 : mL 96 = 2 := by decide +kernel
theorem mC_96 : mMC 96 = 2 := by decide +kernel
theorem mS_96 : mMS 96 = 12 := by decide +kernel
theorem mI_96 : mI 96 = 7 := by decide +kernel
theorem mR_96 : mR 96 = none := by decide +kernel
theorem mH_96 : mH 96 = [] := by decide +kernel
theorem CL_96 (x : Cx) (w : Wd) (K : Po) (v0 : Value) (v1 : Value) : CL x 96 [v0, v1] w K = WP x 96 0 [some v0, some v1] [] w 2 12 K := by
  unfold CL
  rw [mL_96, mC_96, mS_96]
  rfl
theorem mL_97 : mL 97 = 1 := by decide +kernel
theorem mC_97 : mMC 97 = 1 := by decide +kernel
theorem mS_97 : mMS 97 = 6 := by decide +kernel
theorem mI_97 : mI 97 = 7 := by decide +kernel
theorem mR_97 : mR 97 = none := by decide +kernel
theorem mH_97 : mH 97 = [] := by decide +kernel
theorem CL_97 (x : Cx) (w : Wd) (K : Po) (v0 : Value) : CL x 97 [v0] w K = WP x 97 0 [some v0] [] w 1 6 K := by
  unfold CL
  rw [mL_97, mC_97, mS_97]
  rfl
theorem mL_98 : mL 98 = 3 := by decide +kernel
theorem mC_98 : mMC 98 = 1 := by decide +kernel
theorem mS_98 : mMS 98 = 6 := by decide +kernel
theorem mI_98 : mI 98 = 7 := by decide +kernel
theorem mR_98 : mR 98 = none := by decide +kernel
theorem mH_98 : mH 98 = [] := by decide +kernel
theorem CL_98 (x : Cx) (w : Wd) (K : Po) (v0 : Value) (v1 : Value) (v2 : Value) : CL x 98 [v0, v1, v2] w K = WP x 98 0 [some v0, some v1, some v2] [] w 1 6 K := by
  unfold CL
  rw [mL_98, mC_98, mS_98]
  rfl
theorem mL_99 : mL 99 = 2 := by decide +kernel
theorem mC_99 : mMC 99 = 0 := by decide +kernel
theorem mS_99 : mMS 99 = 0 := by decide +kernel
theorem mI_99 : mI 99 = 7 := by decide +kernel
theorem mR_99 : mR 99 = (some Jvm.ClassFile.FieldType.int) := by decide +kernel
theorem mH_99 : mH 99 = [] := by decide +kernel
theorem CL_99 (x : Cx) (w : Wd) (K : Po) (v0 : Value) (v1 : Value) : CL x 99 [v0, v1] w K = WP x 99 0 [some v0, some v1] [] w 0 0 K := by
  unfold CL
  rw [mL_99, mC_99, mS_99]
  rfl
theorem mL_100 : mL 100 = 1 := by decide +kernel
theorem mC_100 : mMC 100 = 0 := by decide +kernel
theorem mS_100 : mMS 100 = 0 := by decide +kernel
theorem mI_100 : mI 100 = 7 := by decide +kernel
theorem mR_100 : mR 100 = (some Jvm.ClassFile.FieldType.int) := by decide +kernel
theorem mH_100 : mH 100 = [] := by decide +kernel
theorem CL_100 (x : Cx) (w : Wd) (K : Po) (v0 : Value) : CL x 100 [v0] w K = WP x 100 0 [some v0] [] w 0 0 K := by
  unfold CL
  rw [mL_100, mC_100, mS_100]
  rfl
theorem mL_101 : mL 101 = 1 := by decide +kernel
theorem mC_101 : mMC 101 = 0 := by decide +kernel
theorem mS_101 : mMS 101 = 0 := by decide +kernel
theorem mI_101 : mI 101 = 7 := by decide +kernel
theorem mR_101 : mR 101 = (some Jvm.ClassFile.FieldType.int) := by decide +kernel
theorem mH_101 : mH 101 = [] := by decide +kernel
theorem CL_101 (x : Cx) (w : Wd) (K : Po) (v0 : Value) : CL x 101 [v0] w K = WP x 101 0 [some v0] [] w 0 0 K := by
  unfold CL
  rw [mL_101, mC_101, mS_101]
  rfl
theorem mL_102 : mL 102 = 2 := by decide +kernel
theorem mC_102 : mMC 102 = 0 := by decide +kernel
theorem mS_102 : mMS 102 = 0 := by decide +kernel
theorem mI_102 : mI 102 = 7 := by decide +kernel
theorem mR_102 : mR 102 = (some Jvm.ClassFile.FieldType.boolean) := by decide +kernel
theorem mH_102 : mH 102 = [] := by decide +kernel
theorem CL_102 (x : Cx) (w : Wd) (K : Po) (v0 : Value) (v1 : Value) : CL x 102 [v0, v1] w K = WP x 102 0 [some v0, some v1] [] w 0 0 K := by
  unfold CL
  rw [mL_102, mC_102, mS_102]
  rfl
theorem mL_103 : mL 103 = 6 := by decide +kernel
theorem mC_103 : mMC 103 = 26 := by decide +kernel
theorem mS_103 : mMS 103 = 160 := by decide +kernel
theorem mI_103 : mI 103 = 99 := by decide +kernel
theorem mR_103 : mR 103 = (some Jvm.ClassFile.FieldType.int) := by decide +kernel
theorem mH_103 : mH 103 = [] := by decide +kernel
theorem CL_103 (x : Cx) (w : Wd) (K : Po) (v0 : Value) (v1 : Value) (v2 : Value) (v3 : Value) (v4 : Value) (v5 : Value) : CL x 103 [v0, v1, v2, v3, v4, v5] w K = WP x 103 0 [some v0, some v1, some v2, some v3, some v4, some v5] [] w 26 160 K := by
  unfold CL
  rw [mL_103, mC_103, mS_103]
  rfl
theorem mL_104 : mL 104 = 7 := by decide +kernel
theorem mC_104 : mMC 104 = 26 := by decide +kernel
theorem mS_104 : mMS 104 = 160 := by decide +kernel
theorem mI_104 : mI 104 = 99 := by decide +kernel
theorem mR_104 : mR 104 = (some Jvm.ClassFile.FieldType.int) := by decide +kernel
theorem CL_104 (x : Cx) (w : Wd) (K : Po) (v0 : Value) (v1 : Value) (v2 : Value) (v3 : Value) (v4 : Value) (v5 : Value) : CL x 104 [v0, v1, v2, v3, v4, v5] w K = WP x 104 0 [some v0, some v1, some v2, some v3, some v4, some v5, none] [] w 26 160 K := by
  unfold CL
  rw [mL_104, mC_104, mS_104]
  rfl
theorem mL_105 : mL 105 = 10 := by decide +kernel
theorem mC_105 : mMC 105 = 18 := by decide +kernel
theorem mS_105 : mMS 105 = 108 := by decide +kernel
theorem mI_105 : mI 105 = 99 := by decide +kernel
theorem mR_105 : mR 105 = (some Jvm.ClassFile.FieldType.boolean) := by decide +kernel
theorem mH_105 : mH 105 = [] := by decide +kernel
theorem CL_105 (x : Cx) (w : Wd) (K : Po) (v0 : Value) (v1 : Value) (v2 : Value) (v3 : Value) : CL x 105 [v0, v1, v2, v3] w K = WP x 105 0 [some v0, some v1, some v2, some v3, none, none, none, none, none, none] [] w 18 108 K := by
  unfold CL
  rw [mL_105, mC_105, mS_105]
  rfl
theorem mL_106 : mL 106 = 13 := by decide +kernel
theorem mC_106 : mMC 106 = 43 := by decide +kernel
theorem mS_106 : mMS 106 = 258 := by decide +kernel
theorem mI_106 : mI 106 = 99 := by decide +kernel
theorem mR_106 : mR 106 = (some Jvm.ClassFile.FieldType.boolean) := by decide +kernel
theorem mH_106 : mH 106 = [] := by decide +kernel
theorem CL_106 (x : Cx) (w : Wd) (K : Po) (v0 : Value) (v1 : Value) (v2 : Value) (v3 : Value) (v4 : Value) : CL x 106 [v0, v1, v2, v3, v4] w K = WP x 106 0 [some v0, some v1, some v2, some v3, some v4, none, none, none, none, none, none, none, none] [] w 43 258 K := by
  unfold CL
  rw [mL_106, mC_106, mS_106]
  rfl
theorem mL_107 : mL 107 = 23 := by decide +kernel
theorem mR_107 : mR 107 = some .boolean := by decide +kernel
theorem dfl_0 : dfl 0 = [.int 0, .null, .int 0] := by decide +kernel
theorem dfl_1 : dfl 1 = [.int 0, .int 0, .int 0, .int 0] := by decide +kernel
theorem dfl_2 : dfl 2 = [.null] := by decide +kernel
theorem dfl_3 : dfl 3 = [.null, .null, .null] := by decide +kernel
theorem dfl_4 : dfl 4 = [.null, .null, .int 0, .int 0] := by decide +kernel
theorem dfl_5 : dfl 5 = [.null] := by decide +kernel
theorem dfl_6 : dfl 6 = [.int 0, .int 0, .int 0, .int 0, .int 0, .int 0, .null, .int 0, .int 0] := by decide +kernel
theorem dfl_7 : dfl 7 = [.null, .null, .null, .null, .null] := by decide +kernel
theorem kc_iconst_1 : Int32.ofInt (1) = nI 1 := by decide +kernel
theorem kc_iconst_2 : Int32.ofInt (2) = nI 2 := by decide +kernel
theorem kc_iconst_4 : Int32.ofInt (4) = nI 4 := by decide +kernel
theorem kc_bipush_8 : (Int8.ofInt (8)).toInt32 = nI 8 := by decide +kernel
theorem kc_bipush_16 : (Int8.ofInt (16)).toInt32 = nI 16 := by decide +kernel
theorem kc_bipush_63 : (Int8.ofInt (63)).toInt32 = nI 63 := by decide +kernel
theorem kc_iconst_0 : Int32.ofInt (0) = nI 0 := by decide +kernel
theorem kc_bipush_10 : (Int8.ofInt (10)).toInt32 = nI 10 := by decide +kernel
theorem kc_iconst_3 : Int32.ofInt (3) = nI 3 := by decide +kernel
theorem kc_bipush_64 : (Int8.ofInt (64)).toInt32 = nI 64 := by decide +kernel
theorem kc_iconst_m1 : Int32.ofInt ((-1)) = (-1) := by decide +kernel
theorem kc_bipush_20 : (Int8.ofInt (20)).toInt32 = nI 20 := by decide +kernel
theorem kc_bipush_39 : (Int8.ofInt (39)).toInt32 = nI 39 := by decide +kernel
theorem kc_bipush_6 : (Int8.ofInt (6)).toInt32 = nI 6 := by decide +kernel
theorem kc_bipush_100 : (Int8.ofInt (100)).toInt32 = nI 100 := by decide +kernel
theorem kc_sipush_1000 : (Int16.ofInt (1000)).toInt32 = nI 1000 := by decide +kernel
theorem kc_bipush_40 : (Int8.ofInt (40)).toInt32 = nI 40 := by decide +kernel
theorem kc_bipush_m13 : (Int8.ofInt ((-13))).toInt32 = (-13) := by decide +kernel
theorem kc_sipush_10000 : (Int16.ofInt (10000)).toInt32 = nI 10000 := by decide +kernel
theorem kc_iconst_5 : Int32.ofInt (5) = nI 5 := by decide +kernel
theorem kc_bipush_36 : (Int8.ofInt (36)).toInt32 = nI 36 := by decide +kernel
theorem kc_sipush_140 : (Int16.ofInt (140)).toInt32 = nI 140 := by decide +kernel
theorem kc_bipush_80 : (Int8.ofInt (80)).toInt32 = nI 80 := by decide +kernel
theorem kc_sipush_260 : (Int16.ofInt (260)).toInt32 = nI 260 := by decide +kernel
theorem kc_sipush_143 : (Int16.ofInt (143)).toInt32 = nI 143 := by decide +kernel
theorem kc_bipush_15 : (Int8.ofInt (15)).toInt32 = nI 15 := by decide +kernel
theorem kc_bipush_13 : (Int8.ofInt (13)).toInt32 = nI 13 := by decide +kernel
theorem kc_bipush_9 : (Int8.ofInt (9)).toInt32 = nI 9 := by decide +kernel
theorem kc_bipush_7 : (Int8.ofInt (7)).toInt32 = nI 7 := by decide +kernel
theorem kc_bipush_11 : (Int8.ofInt (11)).toInt32 = nI 11 := by decide +kernel
theorem kc_bipush_12 : (Int8.ofInt (12)).toInt32 = nI 12 := by decide +kernel
theorem kc_bipush_60 : (Int8.ofInt (60)).toInt32 = nI 60 := by decide +kernel
