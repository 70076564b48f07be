/-! From the small machine to the walk: each instruction. -/
def Fr (x : Cx) (D : va_G) (B0 : Nat) (l : Launch) (k : Nat) (p : Program) (R : Room) (s : State) (m : MethodId) (args : Array Value) (meth : Method) (c : Code) : Prop :=
  p.tables.exec = Jvm.exec ∧ c.code = mB k ∧ c.maxLocals = mL k ∧ s.vm.findClass (mY k).cls = some m.cls ∧ (∀ w ∈ Tb, w.before args s = true) ∧ meth.locks = false ∧ meth.name = (mY k).name ∧ (mH k ≠ [] → c.exceptionTable.toList = tableOf (mH k)) ∧ WEnv x D B0 s ∧ mF k ≤ R.frames ∧ mO k ≤ R.locals ∧ l.stackTraces = false
def RetAt (k pc : Nat) (v : Option Value) : Prop :=
  (decode (mB k) pc = .ok (.return_, 1) ∧ v = none ∧ mR k = none) ∨ (∃ z : Int32, decode (mB k) pc = .ok (.ireturn, 1) ∧ v = some (.int z) ∧ (mR k = some .int ∨ (mR k = some .boolean ∧ (z = 0 ∨ z = 1)))) ∨
  (∃ u : Value, decode (mB k) pc = .ok (.areturn, 1) ∧ v = some u ∧ (u = .null ∨ ∃ a, u = .ref a) ∧ ∃ rt, mR k = some rt ∧ ((∃ n, rt = .object n) ∨ ∃ t, rt = .array t))
def EndR (D : va_G) (B0 k : Nat) (p : Program) (l : Launch) (e : Env) (R : Room) (s : State) (m : MethodId) (args : Array Value) (below : List Frame) (meth : Method) (c : Code) (Q : State → Prop) (post : Po) : Prop :=
  ∀ (w : Wd) (H : Heap) (locs : List Loc) (cells slots : Nat) (ls : Array Slot) (pc : Nat) (v : Option Value), RetAt k pc v → post (.inl v) w → GW D B0 w H → va_S (AA B0) s.heap H locs → cells ≤ R.cells → slots ≤ R.slots →
    W p l e R s m args below meth c H locs cells slots Q (F0 m pc ls v.toList)
def EndT (D : va_G) (B0 k : Nat) (p : Program) (l : Launch) (e : Env) (R : Room) (s : State) (m : MethodId) (args : Array Value) (below : List Frame) (meth : Method) (c : Code) (Q : State → Prop) (post : Po) : Prop :=
  ∀ (w : Wd) (H : Heap) (locs : List Loc) (cells slots : Nat) (ls : Array Slot) (pc : Nat) (rest : List Value) (ex : Nat) (q : Addr) (ce : Cell), (hnd k pc).lookup ex = none → post (.inr ex) w → GW D B0 w H → va_S (AA B0) s.heap H locs → cells ≤ R.cells → slots ≤ R.slots →
    H[q]? = some ce → ce.vm = .none → s.vm.findClass (exN ex) = some ce.cls → vx_W p l e R s m args below meth c H locs cells slots Q (F0 m pc ls rest) q
def EndN (D : va_G) (B0 k : Nat) (p : Program) (l : Launch) (e : Env) (R : Room) (s : State) (m : MethodId) (args : Array Value) (below : List Frame) (meth : Method) (c : Code) (Q : State → Prop) (post : Po) : Prop :=
  ∀ (w : Wd) (H : Heap) (locs : List Loc) (cells slots : Nat) (ls : Array Slot) (pc idx a b j : Nat) (rest : List Value), decode (mB k) pc = .ok (.new idx, 3) → okX k pc a b j idx = true → post (.inr a) w → GW D B0 w H → va_S (AA B0) s.heap H locs → cells + 1 ≤ R.cells → slots + 6 ≤ R.slots → rest.length ≤ 4 → ls.size = mL k →
    W p l e R s m args below meth c H locs cells slots Q (F0 m pc ls rest)
/-- what the machine's word says of the walk -/
def Snd (x : Cx) (D : va_G) (B0 : Nat) (l : Launch) : FT := fun k pc L S w mc ms post =>
  ∀ (p : Program) (e : Env) (R : Room) (s : State) (m : MethodId) (args : Array Value) (below : List Frame) (meth : Method) (c : Code) (Q : State → Prop) (H : Heap) (locs : List Loc) (cells slots : Nat) (ls : Array Slot),
    Fr x D B0 l k p R s m args meth c → EndR D B0 k p l e R s m args below meth c Q post → EndT D B0 k p l e R s m args below meth c Q post → EndN D B0 k p l e R s m args below meth c Q post →
    GW D B0 w H → va_S (AA B0) s.heap H locs → cells + mc ≤ R.cells → slots + ms ≤ R.slots → lvR ls (mL k) L →
    W p l e R s m args below meth c H locs cells slots Q (F0 m pc ls S)
abbrev SI (x : Cx) (D : va_G) (B0 : Nat) (l : Launch) (ai : AI) (k pc : Nat) (L : Lc) (S : List Value) (w : Wd) (mc ms : Nat) (post : Po) : Prop :=
  decode (mB k) pc = .ok (ai.1, ai.2.1) → okW k pc ai = true → stepI x ai (Snd x D B0 l) k pc L S w mc ms post → Snd x D B0 l k pc L S w mc ms post
section ROWS
variable {x : Cx} {D : va_G} {B0 : Nat} {l : Launch} {k pc : Nat} {L : Lc} {S : List Value} {w : Wd} {mc ms : Nat} {post : Po} {n a b j ee : Nat}
theorem Fr.sz {p : Program} {R : Room} {s : State} {m : MethodId} {args : Array Value} {meth : Method} {c : Code} {H : Heap} {locs : List Loc} (h : Fr x D B0 l k p R s m args meth c) (hS : va_S (AA B0) s.heap H locs) : B0 ≤ H.size := by
  obtain ⟨-, -, -, -, -, -, -, -, hE, -⟩ := h
  obtain ⟨-, -, -, -, -, -, -, -, -, -, -, h12⟩ := hE
  exact Nat.le_trans h12 hS.1
theorem sn_iconst {i : Int} : SI x D B0 l (.iconst i, n, a, b, j, ee) k pc L S w mc ms post := by
  intro hd hw h
  obtain rfl : n = 1 := of_decide_eq_true hw
  intro p e R s m args below meth c Q H locs cells slots ls hF hR hT hN hG hS h1 h2 hl
  obtain ⟨hx, hb, hml, hown, hts, hlk, hnm, htb, hE, hfr, hlo, htr⟩ := id hF
  exact lv_iconst hx hb hd rfl (h p e R s m args below meth c Q H locs cells slots ls hF hR hT hN hG hS h1 h2 hl)
theorem sn_bipush {i : Int} : SI x D B0 l (.bipush i, n, a, b, j, ee) k pc L S w mc ms post := by
  intro hd hw h
  obtain rfl : n = 2 := of_decide_eq_true hw
  intro p e R s m args below meth c Q H locs cells slots ls hF hR hT hN hG hS h1 h2 hl
  obtain ⟨hx, hb, hml, hown, hts, hlk, hnm, htb, hE, hfr, hlo, htr⟩ := id hF
  exact lv_bipush hx hb hd rfl (h p e R s m args below meth c Q H locs cells slots ls hF hR hT hN hG hS h1 h2 hl)
theorem sn_sipush {i : Int} : SI x D B0 l (.sipush i, n, a, b, j, ee) k pc L S w mc ms post := by
  intro hd hw h
  obtain rfl : n = 3 := of_decide_eq_true hw
  intro p e R s m args below meth c Q H locs cells slots ls hF hR hT hN hG hS h1 h2 hl
  obtain ⟨hx, hb, hml, hown, hts, hlk, hnm, htb, hE, hfr, hlo, htr⟩ := id hF
  exact lv_sipush hx hb hd rfl (h p e R s m args below meth c Q H locs cells slots ls hF hR hT hN hG hS h1 h2 hl)
theorem sn_null : SI x D B0 l (.aconst_null, n, a, b, j, ee) k pc L S w mc ms post := by
  intro hd hw h
  obtain rfl : n = 1 := of_decide_eq_true hw
  intro p e R s m args below meth c Q H locs cells slots ls hF hR hT hN hG hS h1 h2 hl
  obtain ⟨hx, hb, hml, hown, hts, hlk, hnm, htb, hE, hfr, hlo, htr⟩ := id hF
  exact lv_null hx hb hd (h p e R s m args below meth c Q H locs cells slots ls hF hR hT hN hG hS h1 h2 hl)
theorem sn_ldc {i : Nat} : SI x D B0 l (.ldc i, n, a, b, j, ee) k pc L S w mc ms post := by
  intro hd hw h
  have hw : (decide (n = 2) && tb j (.constant (mY k).cls i (nI a))) = true := hw
  simp only [Bool.and_eq_true, decide_eq_true_eq] at hw
  obtain ⟨rfl, hw⟩ := hw
  intro p e R s m args below meth c Q H locs cells slots ls hF hR hT hN hG hS h1 h2 hl
  obtain ⟨hx, hb, hml, hown, hts, hlk, hnm, htb, hE, hfr, hlo, htr⟩ := id hF
  exact lv_ldc hx hb hown (hts _ (tb_mem hw)) hd (h p e R s m args below meth c Q H locs cells slots ls hF hR hT hN hG hS h1 h2 hl)
theorem sn_ldc_w {i : Nat} : SI x D B0 l (.ldc_w i, n, a, b, j, ee) k pc L S w mc ms post := by
  intro hd hw h
  have hw : (decide (n = 3) && tb j (.constant (mY k).cls i (nI a))) = true := hw
  simp only [Bool.and_eq_true, decide_eq_true_eq] at hw
  obtain ⟨rfl, hw⟩ := hw
  intro p e R s m args below meth c Q H locs cells slots ls hF hR hT hN hG hS h1 h2 hl
  obtain ⟨hx, hb, hml, hown, hts, hlk, hnm, htb, hE, hfr, hlo, htr⟩ := id hF
  exact lv_ldcw hx hb hown (hts _ (tb_mem hw)) hd (h p e R s m args below meth c Q H locs cells slots ls hF hR hT hN hG hS h1 h2 hl)
theorem sn_iload_n {i : Fin 4} : SI x D B0 l (.iload_n i, n, a, b, j, ee) k pc L S w mc ms post := by
  intro hd hw h
  obtain rfl : n = 1 := of_decide_eq_true hw
  obtain ⟨z, hz, h⟩ := qlI_e h
  intro p e R s m args below meth c Q H locs cells slots ls hF hR hT hN hG hS h1 h2 hl
  obtain ⟨hx, hb, hml, hown, hts, hlk, hnm, htb, hE, hfr, hlo, htr⟩ := id hF
  exact lv_iload_n hx hb hd rfl (hl.2.2.2 _ _ hz).2 (h p e R s m args below meth c Q H locs cells slots ls hF hR hT hN hG hS h1 h2 hl)
theorem sn_iload {i : Nat} : SI x D B0 l (.iload i, n, a, b, j, ee) k pc L S w mc ms post := by
  intro hd hw h
  obtain rfl : n = 2 := of_decide_eq_true hw
  obtain ⟨z, hz, h⟩ := qlI_e h
  intro p e R s m args below meth c Q H locs cells slots ls hF hR hT hN hG hS h1 h2 hl
  obtain ⟨hx, hb, hml, hown, hts, hlk, hnm, htb, hE, hfr, hlo, htr⟩ := id hF
  exact lv_iload hx hb hd (hl.2.2.2 _ _ hz).2 (h p e R s m args below meth c Q H locs cells slots ls hF hR hT hN hG hS h1 h2 hl)
theorem sn_aload_n {i : Fin 4} : SI x D B0 l (.aload_n i, n, a, b, j, ee) k pc L S w mc ms post := by
  intro hd hw h
  obtain rfl : n = 1 := of_decide_eq_true hw
  have h : qlA L i fun v => Snd x D B0 l k (pc + 1) L (v :: S) w mc ms post := h
  rcases qlA_e h with ⟨z, hz, h⟩ | ⟨hz, h⟩
  · intro p e R s m args below meth c Q H locs cells slots ls hF hR hT hN hG hS h1 h2 hl
    obtain ⟨hx, hb, hml, hown, hts, hlk, hnm, htb, hE, hfr, hlo, htr⟩ := id hF
    exact lv_aload_n hx hb hd rfl (hl.2.2.2 _ _ hz).2 (h p e R s m args below meth c Q H locs cells slots ls hF hR hT hN hG hS h1 h2 hl)
  · intro p e R s m args below meth c Q H locs cells slots ls hF hR hT hN hG hS h1 h2 hl
    obtain ⟨hx, hb, hml, hown, hts, hlk, hnm, htb, hE, hfr, hlo, htr⟩ := id hF
    exact lv_aload_nN hx hb hd rfl (hl.2.2.2 _ _ hz).2 (h p e R s m args below meth c Q H locs cells slots ls hF hR hT hN hG hS h1 h2 hl)
theorem sn_aload {i : Nat} : SI x D B0 l (.aload i, n, a, b, j, ee) k pc L S w mc ms post := by
  intro hd hw h
  obtain rfl : n = 2 := of_decide_eq_true hw
  have h : qlA L i fun v => Snd x D B0 l k (pc + 2) L (v :: S) w mc ms post := h
  rcases qlA_e h with ⟨z, hz, h⟩ | ⟨hz, h⟩
  · intro p e R s m args below meth c Q H locs cells slots ls hF hR hT hN hG hS h1 h2 hl
    obtain ⟨hx, hb, hml, hown, hts, hlk, hnm, htb, hE, hfr, hlo, htr⟩ := id hF
    exact lv_aload hx hb hd (hl.2.2.2 _ _ hz).2 (h p e R s m args below meth c Q H locs cells slots ls hF hR hT hN hG hS h1 h2 hl)
  · intro p e R s m args below meth c Q H locs cells slots ls hF hR hT hN hG hS h1 h2 hl
    obtain ⟨hx, hb, hml, hown, hts, hlk, hnm, htb, hE, hfr, hlo, htr⟩ := id hF
    exact lv_aloadN hx hb hd (hl.2.2.2 _ _ hz).2 (h p e R s m args below meth c Q H locs cells slots ls hF hR hT hN hG hS h1 h2 hl)
theorem sn_istore_n {i : Fin 4} : SI x D B0 l (.istore_n i, n, a, b, j, ee) k pc L S w mc ms post := by
  intro hd hw h
  obtain rfl : n = 1 := of_decide_eq_true hw
  obtain ⟨z, S, rfl, hi, h⟩ := qs1_e h
  intro p e R s m args below meth c Q H locs cells slots ls hF hR hT hN hG hS h1 h2 hl
  obtain ⟨hx, hb, hml, hown, hts, hlk, hnm, htb, hE, hfr, hlo, htr⟩ := id hF
  exact lv_istore_n hx hb hd rfl hl.has (by rw [← hl.1]; exact hi) rfl (fun ls' hl' => h p e R s m args below meth c Q H locs cells slots ls' hF hR hT hN hG hS h1 h2 (hl.put rfl hl'))
theorem sn_istore {i : Nat} : SI x D B0 l (.istore i, n, a, b, j, ee) k pc L S w mc ms post := by
  intro hd hw h
  obtain rfl : n = 2 := of_decide_eq_true hw
  obtain ⟨z, S, rfl, hi, h⟩ := qs1_e h
  intro p e R s m args below meth c Q H locs cells slots ls hF hR hT hN hG hS h1 h2 hl
  obtain ⟨hx, hb, hml, hown, hts, hlk, hnm, htb, hE, hfr, hlo, htr⟩ := id hF
  exact lv_istore hx hb hd hl.has (by rw [← hl.1]; exact hi) rfl (fun ls' hl' => h p e R s m args below meth c Q H locs cells slots ls' hF hR hT hN hG hS h1 h2 (hl.put rfl hl'))
theorem sn_astore_n {i : Fin 4} : SI x D B0 l (.astore_n i, n, a, b, j, ee) k pc L S w mc ms post := by
  intro hd hw h
  obtain rfl : n = 1 := of_decide_eq_true hw
  obtain ⟨z, S, rfl, hi, h⟩ := qsr_e h
  intro p e R s m args below meth c Q H locs cells slots ls hF hR hT hN hG hS h1 h2 hl
  obtain ⟨hx, hb, hml, hown, hts, hlk, hnm, htb, hE, hfr, hlo, htr⟩ := id hF
  exact lv_astore_n hx hb hd rfl hl.has (by rw [← hl.1]; exact hi) rfl (fun ls' hl' => h p e R s m args below meth c Q H locs cells slots ls' hF hR hT hN hG hS h1 h2 (hl.put rfl hl'))
theorem sn_astore {i : Nat} : SI x D B0 l (.astore i, n, a, b, j, ee) k pc L S w mc ms post := by
  intro hd hw h
  obtain rfl : n = 2 := of_decide_eq_true hw
  obtain ⟨z, S, rfl, hi, h⟩ := qsr_e h
  intro p e R s m args below meth c Q H locs cells slots ls hF hR hT hN hG hS h1 h2 hl
  obtain ⟨hx, hb, hml, hown, hts, hlk, hnm, htb, hE, hfr, hlo, htr⟩ := id hF
  exact lv_astore hx hb hd hl.has (by rw [← hl.1]; exact hi) rfl (fun ls' hl' => h p e R s m args below meth c Q H locs cells slots ls' hF hR hT hN hG hS h1 h2 (hl.put rfl hl'))
theorem sn_iinc {i : Nat} {z : Int} : SI x D B0 l (.iinc i z, n, a, b, j, ee) k pc L S w mc ms post := by
  intro hd hw h
  obtain rfl : n = 3 := of_decide_eq_true hw
  obtain ⟨v, hv, hi, h⟩ := qlI_e h
  intro p e R s m args below meth c Q H locs cells slots ls hF hR hT hN hG hS h1 h2 hl
  obtain ⟨hx, hb, hml, hown, hts, hlk, hnm, htb, hE, hfr, hlo, htr⟩ := id hF
  have hh : lv_has ls (mL k) ((i, .int v) :: lvP L) := ⟨hl.has.1, hl.has.2.1, fun q hq => by
    rcases List.mem_cons.mp hq with rfl | hq
    · exact (hl.2.2.2 _ _ hv).2
    · exact hl.has.2.2 q hq⟩
  refine lv_iinc (k := 0) hx hb hd hh rfl rfl (by rw [← hl.1]; exact hi) rfl (fun ls' hl' => h p e R s m args below meth c Q H locs cells slots ls' hF hR hT hN hG hS h1 h2 (hl.put rfl ⟨hl'.1, hl'.2.1, fun q hq => hl'.2.2 q ?_⟩))
  rcases List.mem_cons.mp hq with rfl | hq
  · exact List.mem_cons_self
  · refine List.mem_cons_of_mem _ ?_
    obtain ⟨q1, q2⟩ := List.mem_filter.mp hq
    exact List.mem_filter.mpr ⟨List.mem_cons_of_mem _ q1, q2⟩
theorem sn_iadd : SI x D B0 l (.iadd, n, a, b, j, ee) k pc L S w mc ms post := by
  intro hd hw h
  obtain rfl : n = 1 := of_decide_eq_true hw
  obtain ⟨u, v, S, rfl, h⟩ := qs2_e h
  intro p e R s m args below meth c Q H locs cells slots ls hF hR hT hN hG hS h1 h2 hl
  obtain ⟨hx, hb, hml, hown, hts, hlk, hnm, htb, hE, hfr, hlo, htr⟩ := id hF
  exact lv_iadd hx hb hd (h p e R s m args below meth c Q H locs cells slots ls hF hR hT hN hG hS h1 h2 hl)
theorem sn_isub : SI x D B0 l (.isub, n, a, b, j, ee) k pc L S w mc ms post := by
  intro hd hw h
  obtain rfl : n = 1 := of_decide_eq_true hw
  obtain ⟨u, v, S, rfl, h⟩ := qs2_e h
  intro p e R s m args below meth c Q H locs cells slots ls hF hR hT hN hG hS h1 h2 hl
  obtain ⟨hx, hb, hml, hown, hts, hlk, hnm, htb, hE, hfr, hlo, htr⟩ := id hF
  exact lv_isub hx hb hd (h p e R s m args below meth c Q H locs cells slots ls hF hR hT hN hG hS h1 h2 hl)
theorem sn_imul : SI x D B0 l (.imul, n, a, b, j, ee) k pc L S w mc ms post := by
  intro hd hw h
  obtain rfl : n = 1 := of_decide_eq_true hw
  obtain ⟨u, v, S, rfl, h⟩ := qs2_e h
  intro p e R s m args below meth c Q H locs cells slots ls hF hR hT hN hG hS h1 h2 hl
  obtain ⟨hx, hb, hml, hown, hts, hlk, hnm, htb, hE, hfr, hlo, htr⟩ := id hF
  exact lv_imul hx hb hd (h p e R s m args below meth c Q H locs cells slots ls hF hR hT hN hG hS h1 h2 hl)
theorem sn_iand : SI x D B0 l (.iand, n, a, b, j, ee) k pc L S w mc ms post := by
  intro hd hw h
  obtain rfl : n = 1 := of_decide_eq_true hw
  obtain ⟨u, v, S, rfl, h⟩ := qs2_e h
  intro p e R s m args below meth c Q H locs cells slots ls hF hR hT hN hG hS h1 h2 hl
  obtain ⟨hx, hb, hml, hown, hts, hlk, hnm, htb, hE, hfr, hlo, htr⟩ := id hF
  exact lv_iand hx hb hd (h p e R s m args below meth c Q H locs cells slots ls hF hR hT hN hG hS h1 h2 hl)
theorem sn_ixor : SI x D B0 l (.ixor, n, a, b, j, ee) k pc L S w mc ms post := by
  intro hd hw h
  obtain rfl : n = 1 := of_decide_eq_true hw
  obtain ⟨u, v, S, rfl, h⟩ := qs2_e h
  intro p e R s m args below meth c Q H locs cells slots ls hF hR hT hN hG hS h1 h2 hl
  obtain ⟨hx, hb, hml, hown, hts, hlk, hnm, htb, hE, hfr, hlo, htr⟩ := id hF
  exact lv_ixor hx hb hd (h p e R s m args below meth c Q H locs cells slots ls hF hR hT hN hG hS h1 h2 hl)
theorem sn_ishl : SI x D B0 l (.ishl, n, a, b, j, ee) k pc L S w mc ms post := by
  intro hd hw h
  obtain rfl : n = 1 := of_decide_eq_true hw
  obtain ⟨u, v, S, rfl, h⟩ := qs2_e h
  intro p e R s m args below meth c Q H locs cells slots ls hF hR hT hN hG hS h1 h2 hl
  obtain ⟨hx, hb, hml, hown, hts, hlk, hnm, htb, hE, hfr, hlo, htr⟩ := id hF
  exact lv_ishl hx hb hd (h p e R s m args below meth c Q H locs cells slots ls hF hR hT hN hG hS h1 h2 hl)
theorem sn_ishr : SI x D B0 l (.ishr, n, a, b, j, ee) k pc L S w mc ms post := by
  intro hd hw h
  obtain rfl : n = 1 := of_decide_eq_true hw
  obtain ⟨u, v, S, rfl, h⟩ := qs2_e h
  intro p e R s m args below meth c Q H locs cells slots ls hF hR hT hN hG hS h1 h2 hl
  obtain ⟨hx, hb, hml, hown, hts, hlk, hnm, htb, hE, hfr, hlo, htr⟩ := id hF
  exact lv_ishr hx hb hd (h p e R s m args below meth c Q H locs cells slots ls hF hR hT hN hG hS h1 h2 hl)
theorem sn_idiv : SI x D B0 l (.idiv, n, a, b, j, ee) k pc L S w mc ms post := by
  intro hd hw h
  obtain rfl : n = 1 := of_decide_eq_true hw
  obtain ⟨u, v, S, rfl, h0, h⟩ := qs2_e h
  intro p e R s m args below meth c Q H locs cells slots ls hF hR hT hN hG hS h1 h2 hl
  obtain ⟨hx, hb, hml, hown, hts, hlk, hnm, htb, hE, hfr, hlo, htr⟩ := id hF
  exact lv_idiv hx hb hd h0 (h p e R s m args below meth c Q H locs cells slots ls hF hR hT hN hG hS h1 h2 hl)
theorem sn_irem : SI x D B0 l (.irem, n, a, b, j, ee) k pc L S w mc ms post := by
  intro hd hw h
  obtain rfl : n = 1 := of_decide_eq_true hw
  obtain ⟨u, v, S, rfl, h0, h⟩ := qs2_e h
  intro p e R s m args below meth c Q H locs cells slots ls hF hR hT hN hG hS h1 h2 hl
  obtain ⟨hx, hb, hml, hown, hts, hlk, hnm, htb, hE, hfr, hlo, htr⟩ := id hF
  exact lv_irem hx hb hd h0 (h p e R s m args below meth c Q H locs cells slots ls hF hR hT hN hG hS h1 h2 hl)
theorem sn_iushr : SI x D B0 l (.iushr, n, a, b, j, ee) k pc L S w mc ms post := by
  intro hd hw h
  obtain rfl : n = 1 := of_decide_eq_true hw
  obtain ⟨u, v, S, rfl, h⟩ := qs2_e h
  intro p e R s m args below meth c Q H locs cells slots ls hF hR hT hN hG hS h1 h2 hl
  obtain ⟨hx, hb, hml, hown, hts, hlk, hnm, htb, hE, hfr, hlo, htr⟩ := id hF
  exact lv_iushr hx hb hd rfl (h p e R s m args below meth c Q H locs cells slots ls hF hR hT hN hG hS h1 h2 hl)
theorem sn_ineg : SI x D B0 l (.ineg, n, a, b, j, ee) k pc L S w mc ms post := by
  intro hd hw h
  obtain rfl : n = 1 := of_decide_eq_true hw
  obtain ⟨u, S, rfl, h⟩ := qs1_e h
  intro p e R s m args below meth c Q H locs cells slots ls hF hR hT hN hG hS h1 h2 hl
  obtain ⟨hx, hb, hml, hown, hts, hlk, hnm, htb, hE, hfr, hlo, htr⟩ := id hF
  exact lv_ineg hx hb hd (h p e R s m args below meth c Q H locs cells slots ls hF hR hT hN hG hS h1 h2 hl)
theorem sn_dup : SI x D B0 l (.dup, n, a, b, j, ee) k pc L S w mc ms post := by
  intro hd hw h
  obtain rfl : n = 1 := of_decide_eq_true hw
  have h : qsv S fun v S => Snd x D B0 l k (pc + 1) L (v :: v :: S) w mc ms post := h
  obtain ⟨v, S, rfl, hc, -, h⟩ := qsv_e h
  intro p e R s m args below meth c Q H locs cells slots ls hF hR hT hN hG hS h1 h2 hl
  obtain ⟨hx, hb, hml, hown, hts, hlk, hnm, htb, hE, hfr, hlo, htr⟩ := id hF
  exact lv_dup hx hb hd hc (h p e R s m args below meth c Q H locs cells slots ls hF hR hT hN hG hS h1 h2 hl)
theorem sn_pop : SI x D B0 l (.pop, n, a, b, j, ee) k pc L S w mc ms post := by
  intro hd hw h
  obtain rfl : n = 1 := of_decide_eq_true hw
  have h : qsv S fun _ S => Snd x D B0 l k (pc + 1) L S w mc ms post := h
  obtain ⟨v, S, rfl, hc, -, h⟩ := qsv_e h
  intro p e R s m args below meth c Q H locs cells slots ls hF hR hT hN hG hS h1 h2 hl
  obtain ⟨hx, hb, hml, hown, hts, hlk, hnm, htb, hE, hfr, hlo, htr⟩ := id hF
  exact lv_pop hx hb hd hc (h p e R s m args below meth c Q H locs cells slots ls hF hR hT hN hG hS h1 h2 hl)
theorem sn_dup_x1 : SI x D B0 l (.dup_x1, n, a, b, j, ee) k pc L S w mc ms post := by
  intro hd hw h
  obtain rfl : n = 1 := of_decide_eq_true hw
  have h : qsv S fun v S => qsv S fun u S => Snd x D B0 l k (pc + 1) L (v :: u :: v :: S) w mc ms post := h
  obtain ⟨v, S, rfl, hc, -, h⟩ := qsv_e h
  obtain ⟨v2, S, rfl, hc2, -, h⟩ := qsv_e h
  intro p e R s m args below meth c Q H locs cells slots ls hF hR hT hN hG hS h1 h2 hl
  obtain ⟨hx, hb, hml, hown, hts, hlk, hnm, htb, hE, hfr, hlo, htr⟩ := id hF
  exact lv_dup_x1 hx hb hd hc hc2 (h p e R s m args below meth c Q H locs cells slots ls hF hR hT hN hG hS h1 h2 hl)
theorem sn_dup2 : SI x D B0 l (.dup2, n, a, b, j, ee) k pc L S w mc ms post := by
  intro hd hw h
  obtain rfl : n = 1 := of_decide_eq_true hw
  have h : qsv S fun v S => qsv S fun u S => Snd x D B0 l k (pc + 1) L (v :: u :: v :: u :: S) w mc ms post := h
  obtain ⟨v, S, rfl, hc, -, h⟩ := qsv_e h
  obtain ⟨v2, S, rfl, hc2, -, h⟩ := qsv_e h
  intro p e R s m args below meth c Q H locs cells slots ls hF hR hT hN hG hS h1 h2 hl
  obtain ⟨hx, hb, hml, hown, hts, hlk, hnm, htb, hE, hfr, hlo, htr⟩ := id hF
  exact lv_dup2_11 hx hb hd hc hc2 (h p e R s m args below meth c Q H locs cells slots ls hF hR hT hN hG hS h1 h2 hl)
theorem sn_goto {o : Int} : SI x D B0 l (.goto o, n, a, b, j, ee) k pc L S w mc ms post := by
  intro hd hw h
  have hw : (decide (n = 3) && decide ((pc : Int) + o = (a : Int))) = true := hw
  simp only [Bool.and_eq_true, decide_eq_true_eq] at hw
  obtain ⟨rfl, ht⟩ := hw
  intro p e R s m args below meth c Q H locs cells slots ls hF hR hT hN hG hS h1 h2 hl
  obtain ⟨hx, hb, hml, hown, hts, hlk, hnm, htb, hE, hfr, hlo, htr⟩ := id hF
  exact lv_goto hx hb hd ht (h p e R s m args below meth c Q H locs cells slots ls hF hR hT hN hG hS h1 h2 hl)
theorem sn_if_eq {o : Int} : SI x D B0 l (.ifCond .eq o, n, a, b, j, ee) k pc L S w mc ms post := by
  intro hd hw h
  have hw : (decide (n = 3) && decide ((pc : Int) + o = (a : Int))) = true := hw
  simp only [Bool.and_eq_true, decide_eq_true_eq] at hw
  obtain ⟨rfl, ht⟩ := hw
  obtain ⟨u, S, rfl, h⟩ := qs1_e h
  intro p e R s m args below meth c Q H locs cells slots ls hF hR hT hN hG hS h1 h2 hl
  obtain ⟨hx, hb, hml, hown, hts, hlk, hnm, htb, hE, hfr, hlo, htr⟩ := id hF
  have h : (if u = 0 then Snd x D B0 l k a L S w mc ms post else Snd x D B0 l k (pc + 3) L S w mc ms post) := h
  refine lv_if_eq hx hb hd ht (fun hc => ?_) (fun hc => ?_)
  · rw [if_pos hc] at h
    exact h p e R s m args below meth c Q H locs cells slots ls hF hR hT hN hG hS h1 h2 hl
  · rw [if_neg hc] at h
    exact h p e R s m args below meth c Q H locs cells slots ls hF hR hT hN hG hS h1 h2 hl
theorem sn_if_ne {o : Int} : SI x D B0 l (.ifCond .ne o, n, a, b, j, ee) k pc L S w mc ms post := by
  intro hd hw h
  have hw : (decide (n = 3) && decide ((pc : Int) + o = (a : Int))) = true := hw
  simp only [Bool.and_eq_true, decide_eq_true_eq] at hw
  obtain ⟨rfl, ht⟩ := hw
  obtain ⟨u, S, rfl, h⟩ := qs1_e h
  intro p e R s m args below meth c Q H locs cells slots ls hF hR hT hN hG hS h1 h2 hl
  obtain ⟨hx, hb, hml, hown, hts, hlk, hnm, htb, hE, hfr, hlo, htr⟩ := id hF
  have h : (if u = 0 then Snd x D B0 l k (pc + 3) L S w mc ms post else Snd x D B0 l k a L S w mc ms post) := h
  refine lv_if_ne hx hb hd ht (fun hc => ?_) (fun hc => ?_)
  · rw [if_neg hc] at h
    exact h p e R s m args below meth c Q H locs cells slots ls hF hR hT hN hG hS h1 h2 hl
  · rw [if_pos hc] at h
    exact h p e R s m args below meth c Q H locs cells slots ls hF hR hT hN hG hS h1 h2 hl
theorem sn_if_lt {o : Int} : SI x D B0 l (.ifCond .lt o, n, a, b, j, ee) k pc L S w mc ms post := by
  intro hd hw h
  have hw : (decide (n = 3) && decide ((pc : Int) + o = (a : Int))) = true := hw
  simp only [Bool.and_eq_true, decide_eq_true_eq] at hw
  obtain ⟨rfl, ht⟩ := hw
  obtain ⟨u, S, rfl, h⟩ := qs1_e h
  intro p e R s m args below meth c Q H locs cells slots ls hF hR hT hN hG hS h1 h2 hl
  obtain ⟨hx, hb, hml, hown, hts, hlk, hnm, htb, hE, hfr, hlo, htr⟩ := id hF
  have h : (if u < 0 then Snd x D B0 l k a L S w mc ms post else Snd x D B0 l k (pc + 3) L S w mc ms post) := h
  refine lv_if_lt hx hb hd ht (fun hc => ?_) (fun hc => ?_)
  · rw [if_pos hc] at h
    exact h p e R s m args below meth c Q H locs cells slots ls hF hR hT hN hG hS h1 h2 hl
  · rw [if_neg hc] at h
    exact h p e R s m args below meth c Q H locs cells slots ls hF hR hT hN hG hS h1 h2 hl
theorem sn_if_ge {o : Int} : SI x D B0 l (.ifCond .ge o, n, a, b, j, ee) k pc L S w mc ms post := by
  intro hd hw h
  have hw : (decide (n = 3) && decide ((pc : Int) + o = (a : Int))) = true := hw
  simp only [Bool.and_eq_true, decide_eq_true_eq] at hw
  obtain ⟨rfl, ht⟩ := hw
  obtain ⟨u, S, rfl, h⟩ := qs1_e h
  intro p e R s m args below meth c Q H locs cells slots ls hF hR hT hN hG hS h1 h2 hl
  obtain ⟨hx, hb, hml, hown, hts, hlk, hnm, htb, hE, hfr, hlo, htr⟩ := id hF
  have h : (if 0 ≤ u then Snd x D B0 l k a L S w mc ms post else Snd x D B0 l k (pc + 3) L S w mc ms post) := h
  refine lv_if_ge hx hb hd ht (fun hc => ?_) (fun hc => ?_)
  · rw [if_pos hc] at h
    exact h p e R s m args below meth c Q H locs cells slots ls hF hR hT hN hG hS h1 h2 hl
  · rw [if_neg hc] at h
    exact h p e R s m args below meth c Q H locs cells slots ls hF hR hT hN hG hS h1 h2 hl
theorem sn_if_gt {o : Int} : SI x D B0 l (.ifCond .gt o, n, a, b, j, ee) k pc L S w mc ms post := by
  intro hd hw h
  have hw : (decide (n = 3) && decide ((pc : Int) + o = (a : Int))) = true := hw
  simp only [Bool.and_eq_true, decide_eq_true_eq] at hw
  obtain ⟨rfl, ht⟩ := hw
  obtain ⟨u, S, rfl, h⟩ := qs1_e h
  intro p e R s m args below meth c Q H locs cells slots ls hF hR hT hN hG hS h1 h2 hl
  obtain ⟨hx, hb, hml, hown, hts, hlk, hnm, htb, hE, hfr, hlo, htr⟩ := id hF
  have h : (if 0 < u then Snd x D B0 l k a L S w mc ms post else Snd x D B0 l k (pc + 3) L S w mc ms post) := h
  refine lv_if_gt hx hb hd ht (fun hc => ?_) (fun hc => ?_)
  · rw [if_pos hc] at h
    exact h p e R s m args below meth c Q H locs cells slots ls hF hR hT hN hG hS h1 h2 hl
  · rw [if_neg hc] at h
    exact h p e R s m args below meth c Q H locs cells slots ls hF hR hT hN hG hS h1 h2 hl
theorem sn_if_le {o : Int} : SI x D B0 l (.ifCond .le o, n, a, b, j, ee) k pc L S w mc ms post := by
  intro hd hw h
  have hw : (decide (n = 3) && decide ((pc : Int) + o = (a : Int))) = true := hw
  simp only [Bool.and_eq_true, decide_eq_true_eq] at hw
  obtain ⟨rfl, ht⟩ := hw
  obtain ⟨u, S, rfl, h⟩ := qs1_e h
  intro p e R s m args below meth c Q H locs cells slots ls hF hR hT hN hG hS h1 h2 hl
  obtain ⟨hx, hb, hml, hown, hts, hlk, hnm, htb, hE, hfr, hlo, htr⟩ := id hF
  have h : (if u ≤ 0 then Snd x D B0 l k a L S w mc ms post else Snd x D B0 l k (pc + 3) L S w mc ms post) := h
  refine lv_if_le hx hb hd ht (fun hc => ?_) (fun hc => ?_)
  · rw [if_pos hc] at h
    exact h p e R s m args below meth c Q H locs cells slots ls hF hR hT hN hG hS h1 h2 hl
  · rw [if_neg hc] at h
    exact h p e R s m args below meth c Q H locs cells slots ls hF hR hT hN hG hS h1 h2 hl
theorem sn_icmp_eq {o : Int} : SI x D B0 l (.if_icmp .eq o, n, a, b, j, ee) k pc L S w mc ms post := by
  intro hd hw h
  have hw : (decide (n = 3) && decide ((pc : Int) + o = (a : Int))) = true := hw
  simp only [Bool.and_eq_true, decide_eq_true_eq] at hw
  obtain ⟨rfl, ht⟩ := hw
  obtain ⟨u, v, S, rfl, h⟩ := qs2_e h
  intro p e R s m args below meth c Q H locs cells slots ls hF hR hT hN hG hS h1 h2 hl
  obtain ⟨hx, hb, hml, hown, hts, hlk, hnm, htb, hE, hfr, hlo, htr⟩ := id hF
  have h : (if u = v then Snd x D B0 l k a L S w mc ms post else Snd x D B0 l k (pc + 3) L S w mc ms post) := h
  refine lv_icmp_eq hx hb hd ht (fun hc => ?_) (fun hc => ?_)
  · rw [if_pos hc] at h
    exact h p e R s m args below meth c Q H locs cells slots ls hF hR hT hN hG hS h1 h2 hl
  · rw [if_neg hc] at h
    exact h p e R s m args below meth c Q H locs cells slots ls hF hR hT hN hG hS h1 h2 hl
theorem sn_icmp_ne {o : Int} : SI x D B0 l (.if_icmp .ne o, n, a, b, j, ee) k pc L S w mc ms post := by
  intro hd hw h
  have hw : (decide (n = 3) && decide ((pc : Int) + o = (a : Int))) = true := hw
  simp only [Bool.and_eq_true, decide_eq_true_eq] at hw
  obtain ⟨rfl, ht⟩ := hw
  obtain ⟨u, v, S, rfl, h⟩ := qs2_e h
  intro p e R s m args below meth c Q H locs cells slots ls hF hR hT hN hG hS h1 h2 hl
  obtain ⟨hx, hb, hml, hown, hts, hlk, hnm, htb, hE, hfr, hlo, htr⟩ := id hF
  have h : (if u = v then Snd x D B0 l k (pc + 3) L S w mc ms post else Snd x D B0 l k a L S w mc ms post) := h
  refine lv_icmp_ne hx hb hd ht (fun hc => ?_) (fun hc => ?_)
  · rw [if_neg hc] at h
    exact h p e R s m args below meth c Q H locs cells slots ls hF hR hT hN hG hS h1 h2 hl
  · rw [if_pos hc] at h
    exact h p e R s m args below meth c Q H locs cells slots ls hF hR hT hN hG hS h1 h2 hl
theorem sn_icmp_lt {o : Int} : SI x D B0 l (.if_icmp .lt o, n, a, b, j, ee) k pc L S w mc ms post := by
  intro hd hw h
  have hw : (decide (n = 3) && decide ((pc : Int) + o = (a : Int))) = true := hw
  simp only [Bool.and_eq_true, decide_eq_true_eq] at hw
  obtain ⟨rfl, ht⟩ := hw
  obtain ⟨u, v, S, rfl, h⟩ := qs2_e h
  intro p e R s m args below meth c Q H locs cells slots ls hF hR hT hN hG hS h1 h2 hl
  obtain ⟨hx, hb, hml, hown, hts, hlk, hnm, htb, hE, hfr, hlo, htr⟩ := id hF
  have h : (if u < v then Snd x D B0 l k a L S w mc ms post else Snd x D B0 l k (pc + 3) L S w mc ms post) := h
  refine lv_icmp_lt hx hb hd ht (fun hc => ?_) (fun hc => ?_)
  · rw [if_pos hc] at h
    exact h p e R s m args below meth c Q H locs cells slots ls hF hR hT hN hG hS h1 h2 hl
  · rw [if_neg hc] at h
    exact h p e R s m args below meth c Q H locs cells slots ls hF hR hT hN hG hS h1 h2 hl
theorem sn_icmp_ge {o : Int} : SI x D B0 l (.if_icmp .ge o, n, a, b, j, ee) k pc L S w mc ms post := by
  intro hd hw h
  have hw : (decide (n = 3) && decide ((pc : Int) + o = (a : Int))) = true := hw
  simp only [Bool.and_eq_true, decide_eq_true_eq] at hw
  obtain ⟨rfl, ht⟩ := hw
  obtain ⟨u, v, S, rfl, h⟩ := qs2_e h
  intro p e R s m args below meth c Q H locs cells slots ls hF hR hT hN hG hS h1 h2 hl
  obtain ⟨hx, hb, hml, hown, hts, hlk, hnm, htb, hE, hfr, hlo, htr⟩ := id hF
  have h : (if v ≤ u then Snd x D B0 l k a L S w mc ms post else Snd x D B0 l k (pc + 3) L S w mc ms post) := h
  refine lv_icmp_ge hx hb hd ht (fun hc => ?_) (fun hc => ?_)
  · rw [if_pos hc] at h
    exact h p e R s m args below meth c Q H locs cells slots ls hF hR hT hN hG hS h1 h2 hl
  · rw [if_neg hc] at h
    exact h p e R s m args below meth c Q H locs cells slots ls hF hR hT hN hG hS h1 h2 hl
theorem sn_icmp_gt {o : Int} : SI x D B0 l (.if_icmp .gt o, n, a, b, j, ee) k pc L S w mc ms post := by
  intro hd hw h
  have hw : (decide (n = 3) && decide ((pc : Int) + o = (a : Int))) = true := hw
  simp only [Bool.and_eq_true, decide_eq_true_eq] at hw
  obtain ⟨rfl, ht⟩ := hw
  obtain ⟨u, v, S, rfl, h⟩ := qs2_e h
  intro p e R s m args below meth c Q H locs cells slots ls hF hR hT hN hG hS h1 h2 hl
  obtain ⟨hx, hb, hml, hown, hts, hlk, hnm, htb, hE, hfr, hlo, htr⟩ := id hF
  have h : (if v < u then Snd x D B0 l k a L S w mc ms post else Snd x D B0 l k (pc + 3) L S w mc ms post) := h
  refine lv_icmp_gt hx hb hd ht (fun hc => ?_) (fun hc => ?_)
  · rw [if_pos hc] at h
    exact h p e R s m args below meth c Q H locs cells slots ls hF hR hT hN hG hS h1 h2 hl
  · rw [if_neg hc] at h
    exact h p e R s m args below meth c Q H locs cells slots ls hF hR hT hN hG hS h1 h2 hl
theorem sn_icmp_le {o : Int} : SI x D B0 l (.if_icmp .le o, n, a, b, j, ee) k pc L S w mc ms post := by
  intro hd hw h
  have hw : (decide (n = 3) && decide ((pc : Int) + o = (a : Int))) = true := hw
  simp only [Bool.and_eq_true, decide_eq_true_eq] at hw
  obtain ⟨rfl, ht⟩ := hw
  obtain ⟨u, v, S, rfl, h⟩ := qs2_e h
  intro p e R s m args below meth c Q H locs cells slots ls hF hR hT hN hG hS h1 h2 hl
  obtain ⟨hx, hb, hml, hown, hts, hlk, hnm, htb, hE, hfr, hlo, htr⟩ := id hF
  have h : (if u ≤ v then Snd x D B0 l k a L S w mc ms post else Snd x D B0 l k (pc + 3) L S w mc ms post) := h
  refine lv_icmp_le hx hb hd ht (fun hc => ?_) (fun hc => ?_)
  · rw [if_pos hc] at h
    exact h p e R s m args below meth c Q H locs cells slots ls hF hR hT hN hG hS h1 h2 hl
  · rw [if_neg hc] at h
    exact h p e R s m args below meth c Q H locs cells slots ls hF hR hT hN hG hS h1 h2 hl
theorem sn_acmp_eq {o : Int} : SI x D B0 l (.if_acmp .eq o, n, a, b, j, ee) k pc L S w mc ms post := by
  intro hd hw h
  have hw : (decide (n = 3) && decide ((pc : Int) + o = (a : Int))) = true := hw
  simp only [Bool.and_eq_true, decide_eq_true_eq] at hw
  obtain ⟨rfl, ht⟩ := hw
  obtain ⟨u, v, S, rfl, h⟩ := qsrr_e h
  intro p e R s m args below meth c Q H locs cells slots ls hF hR hT hN hG hS h1 h2 hl
  obtain ⟨hx, hb, hml, hown, hts, hlk, hnm, htb, hE, hfr, hlo, htr⟩ := id hF
  have h : (if u = v then Snd x D B0 l k a L S w mc ms post else Snd x D B0 l k (pc + 3) L S w mc ms post) := h
  refine lv_acmp_eq (rx := some u) (ry := some v) hx hb hd ht (fun hc => ?_) (fun hc => ?_)
  · rw [if_pos (Option.some.inj hc)] at h
    exact h p e R s m args below meth c Q H locs cells slots ls hF hR hT hN hG hS h1 h2 hl
  · rw [if_neg (fun q => hc (congrArg some q))] at h
    exact h p e R s m args below meth c Q H locs cells slots ls hF hR hT hN hG hS h1 h2 hl
theorem sn_acmp_ne {o : Int} : SI x D B0 l (.if_acmp .ne o, n, a, b, j, ee) k pc L S w mc ms post := by
  intro hd hw h
  have hw : (decide (n = 3) && decide ((pc : Int) + o = (a : Int))) = true := hw
  simp only [Bool.and_eq_true, decide_eq_true_eq] at hw
  obtain ⟨rfl, ht⟩ := hw
  obtain ⟨u, v, S, rfl, h⟩ := qsrr_e h
  intro p e R s m args below meth c Q H locs cells slots ls hF hR hT hN hG hS h1 h2 hl
  obtain ⟨hx, hb, hml, hown, hts, hlk, hnm, htb, hE, hfr, hlo, htr⟩ := id hF
  have h : (if u = v then Snd x D B0 l k (pc + 3) L S w mc ms post else Snd x D B0 l k a L S w mc ms post) := h
  refine lv_acmp_ne (rx := some u) (ry := some v) hx hb hd ht (fun hc => ?_) (fun hc => ?_)
  · rw [if_neg (fun q => hc (congrArg some q))] at h
    exact h p e R s m args below meth c Q H locs cells slots ls hF hR hT hN hG hS h1 h2 hl
  · rw [if_pos (Option.some.inj hc)] at h
    exact h p e R s m args below meth c Q H locs cells slots ls hF hR hT hN hG hS h1 h2 hl
theorem okF_e {a b j e idx : Nat} {put : Bool} (h : okF k a b j e idx put = true) : ∃ r : vw_C, vwCl[a]? = some r ∧ b < r.2.2 ∧ (put = true → (r.2.1 b).2.2.2 = false ∨ ((mY k).name = "<init>" ∧ (r.2.1 b).1 = (mY k).cls)) ∧
    ∃ ref : String, Cond.fieldLink (mY k).cls idx ref (r.2.1 b).2.1 (r.2.1 b).2.2.1 ∈ Tb ∧ ∀ {args : Array Value} {s : State}, (∀ w ∈ Tb, w.before args s = true) → ∀ x, s.fieldFound? (r.2.1 b).1 (r.2.1 b).2.1 (r.2.1 b).2.2.1 = some x → s.fieldFound? ref (r.2.1 b).2.1 (r.2.1 b).2.2.1 = some x := by
  unfold okF at h
  split at h
  · rename_i r hr
    simp only [Bool.and_eq_true, decide_eq_true_eq, Bool.or_eq_true, Bool.not_eq_true'] at h
    obtain ⟨⟨⟨h1, h2⟩, h3⟩, h4⟩ := h
    refine ⟨r, hr, h1, fun hp => ?_, _, tb_mem h2, ?_⟩
    · rcases h4 with (h4 | h4) | h4
      · rw [h4] at hp; cases hp
      · exact Or.inl h4
      · exact Or.inr h4
    · intro args s hts y hy
      by_cases he : e = 10
      · rcases h3 with h3 | h3
        · exact absurd he h3
        · obtain ⟨rfl, rfl⟩ := h3
          cases hr
          rw [if_pos he]
          refine u_same (hts (.sameField "java/util/ArrayList" "java/util/AbstractList" "modCount" "I") ?_) y hy
          exact List.mem_filter.mpr ⟨by decide +kernel, by decide +kernel⟩
      · rw [if_neg he]; exact hy
  · cases h
theorem sn_getfield {i : Nat} : SI x D B0 l (.getfield i, n, a, b, j, ee) k pc L S w mc ms post := by
  intro hd hw h
  have hw : (decide (n = 3) && okF k a b j ee i false) = true := hw
  simp only [Bool.and_eq_true, decide_eq_true_eq] at hw
  obtain ⟨rfl, hw⟩ := hw
  obtain ⟨r, hr, hbn, -, ref, hlk1, hsm⟩ := okF_e hw
  obtain ⟨o, S, rfl, h⟩ := qsr_e h
  obtain ⟨fs, hwo, h⟩ := qwO_e h
  obtain ⟨v, hv, h⟩ := qwV_e h
  intro p e R s m args below meth c Q H locs cells slots ls hF hR hT hN hG hS h1 h2 hl
  obtain ⟨hx, hb, hml, hown, hts, hlk, hnm, htb, hE, hfr, hlo, htr⟩ := id hF
  have hP : va_P D vwCl [(o, .inr (a, fs))] H := fun q z hz => by
    match q, hz with
    | 0, hz => cases hz; exact (hG _ _ hwo).1
    | q + 1, hz => simp at hz
  exact va_get (ci := a) (v := v) hx hb hts (cl_in hr) hown hE.1 hP 0 rfl hr b hbn (hts _ hlk1) (hsm hts) hv hd (h p e R s m args below meth c Q H locs cells slots ls hF hR hT hN hG hS h1 h2 hl)
theorem sn_putfield {i : Nat} : SI x D B0 l (.putfield i, n, a, b, j, ee) k pc L S w mc ms post := by
  intro hd hw h
  have hw : (decide (n = 3) && okF k a b j ee i true) = true := hw
  simp only [Bool.and_eq_true, decide_eq_true_eq] at hw
  obtain ⟨rfl, hw⟩ := hw
  obtain ⟨r, hr, hbn, hput, ref, hlk1, hsm⟩ := okF_e hw
  obtain ⟨v, o, S, rfl, h⟩ := qsvr_e h
  obtain ⟨fs, hwo, hlen, h⟩ := qwO_e h
  obtain ⟨hnar, hfit, h⟩ := qty_e h
  intro p e R s m args below meth c Q H locs cells slots ls hF hR hT hN hG hS h1 h2 hl
  obtain ⟨hx, hb, hml, hown, hts, hlk, hnm, htb, hE, hfr, hlo, htr⟩ := id hF
  obtain ⟨hty, hnmd, -⟩ := cl_ty hr
  obtain ⟨hat, hba⟩ := hG _ _ hwo
  have hap := va_apart (own := (mY k).cls) hts (cl_in hr) (fty a) hty hnmd hE.1 (ci := a) hr
  obtain ⟨r', g1, cell, q1, q2, q3, q4⟩ := hat
  cases Option.some.inj (g1.symm.trans hr)
  obtain ⟨hSl, hfc, kC, hkC, hkind⟩ := hE.1.1 a _ hr
  obtain ⟨cf, kf, fi, f, hi, hsl⟩ := hSl b hbn
  have hlay := hts _ (cl_in hr _ (u_in_lay hbn))
  have hst := (u_facts hfc hkC (u_lays hts (cl_in hr) hbn) hi).1
  have fin : ∀ H' : Heap, H'[o]? = some (cell.setSlot f.slot v) → H'.size = H.size → (∀ q, q ≠ o → H'[q]? = H[q]?) → W p l e R s m args below meth c H' (locs ++ [⟨o, f.slot⟩]) cells slots Q (F0 m (pc + 3) ls S) := by
    intro H' e1 e2 e3
    rw [hsl] at e1
    refine h p e R s m args below meth c Q H' _ cells slots ls hF hR hT hN (hG.set hba ?_ e3) (hS.put e2 e3 hba) h1 h2 hl
    exact ⟨_, hr, t_OB.to (V := updV (vp_V fs) b v) ⟨_, e1, q2, q3, t_set q4 hap hbn v⟩ (fun z _ => vp_updV_set hlen v z)⟩
  by_cases hfn : (r.2.1 b).2.2.2 = true
  · rcases hput rfl with hp | ⟨hp1, hp2⟩
    · rw [hfn] at hp; cases hp
    · unfold u_lay at hlay
      rw [if_pos hfn] at hlay
      have hcf : m.cls = cf := by
        obtain ⟨_, _, c', _, _, _, -, -, hf', -, -, -, hown2, -⟩ := Cond.laysFinal_spec hlay
        have e1 : c' = cf := by have := hi.symm.trans hf'; simp at this; exact this.1.symm
        rw [hp2] at hown2
        rw [← e1]; exact Option.some.inj (hown.symm.trans hown2)
      have h6 := u_fits hfc hkC hkind (Or.inr hlay) hi (hty b hbn) hnar hfit
      exact W.putFinK hx hb hown (hts _ hlk1) (hsm hts _ hi) hst hcf (hnm.trans hp1) (by rw [q2]; exact h6) q1 q3 (by rw [hsl]; exact k2_hasslot (q4 b hbn)) rfl rfl hd fin
  · unfold u_lay at hlay
    rw [if_neg hfn] at hlay
    have h6 := u_store hfc hkC hkind hlay hi (hty b hbn) hnar hfit
    exact W.putK hx hb (f := f) ⟨hown, hts _ hlk1, ⟨_, _, _, hsm hts _ hi⟩, hst⟩ (by rw [q2]; exact h6) q1 q3 (by rw [hsl]; exact k2_hasslot (q4 b hbn)) rfl rfl hd fin
theorem sn_iaload : SI x D B0 l (.iaload, n, a, b, j, ee) k pc L S w mc ms post := by
  intro hd hw h
  obtain rfl : n = 1 := of_decide_eq_true hw
  obtain ⟨i, o, S, rfl, h⟩ := qsir_e h
  intro p e R s m args below meth c Q H locs cells slots ls hF hR hT hN hG hS h1 h2 hl
  obtain ⟨hx, hb, hml, hown, hts, hlk, hnm, htb, hE, hfr, hlo, htr⟩ := id hF
  have h : qwL x (w o) o fun n f => vp_in i n ∧ Snd x D B0 l k (pc + 1) L (.int (f i.toNatClampNeg) :: S) w mc ms post := h
  rcases qwL_e h with ⟨rfl, hin, h⟩ | ⟨N, f, hwo, hin, h⟩
  · obtain ⟨-, -, -, -, -, -, -, -, -, hX, hbx, hbz⟩ := hE
    exact va_sld hx hb hX (Nat.lt_of_lt_of_le hbx hbz) (Nat.not_le.mpr hbx) hS hin hd (h p e R s m args below meth c Q H locs cells slots ls hF hR hT hN hG hS h1 h2 hl)
  · have hP : va_P D vwCl [(o, .inl (x.1.1, N, .inl f))] H := fun q z hz => by
      match q, hz with
      | 0, hz => cases hz; exact (hG _ _ hwo).1
      | q + 1, hz => simp at hz
    exact va_iald hx hb hE.1 hP 0 0 rfl rfl hin hd (h p e R s m args below meth c Q H locs cells slots ls hF hR hT hN hG hS h1 h2 hl)
theorem sn_aaload : SI x D B0 l (.aaload, n, a, b, j, ee) k pc L S w mc ms post := by
  intro hd hw h
  obtain rfl : n = 1 := of_decide_eq_true hw
  obtain ⟨i, o, S, rfl, h⟩ := qsir_e h
  obtain ⟨N, f, hwo, hin, h⟩ := qwQ_e h
  intro p e R s m args below meth c Q H locs cells slots ls hF hR hT hN hG hS h1 h2 hl
  obtain ⟨hx, hb, hml, hown, hts, hlk, hnm, htb, hE, hfr, hlo, htr⟩ := id hF
  have hP : va_P D vwCl [(o, .inl (x.1.2.2.2, N, .inr (.inr (.inr (.inr f)))))] H := fun q z hz => by
    match q, hz with
    | 0, hz => cases hz; exact (hG _ _ hwo).1
    | q + 1, hz => simp at hz
  exact va_aldq hx hb hE.1 hP 0 3 rfl rfl hin hd (h p e R s m args below meth c Q H locs cells slots ls hF hR hT hN hG hS h1 h2 hl)
theorem sn_iastore : SI x D B0 l (.iastore, n, a, b, j, ee) k pc L S w mc ms post := by
  intro hd hw h
  obtain rfl : n = 1 := of_decide_eq_true hw
  obtain ⟨v, i, o, S, rfl, h⟩ := qsiir_e h
  obtain ⟨N, f, hwo, hin, h⟩ := qwI_e h
  intro p e R s m args below meth c Q H locs cells slots ls hF hR hT hN hG hS h1 h2 hl
  obtain ⟨hx, hb, hml, hown, hts, hlk, hnm, htb, hE, hfr, hlo, htr⟩ := id hF
  obtain ⟨hat, hba⟩ := hG _ _ hwo
  refine W.iast hx hb hat ((hE.1.2 0 _ rfl).1 N (fun j => .int (f j))) (fun q => by cases q) (by show ¬ (i < 0 ∨ (arrV _ _ _).slots.size ≤ _); rw [arrV_size]; exact hin) rfl rfl hd fun H1 e1 z1 o1 => ?_
  refine h p e R s m args below meth c Q H1 _ cells slots ls hF hR hT hN (hG.set hba ?_ o1) (hS.put z1 o1 hba) h1 h2 hl
  show H1[o]? = some (vp_cell _ _)
  rw [e1]
  rw [vp_cell_i, vp_cell_i, arrV_store]
  congr 2
  funext q
  by_cases hq : q = i.toNatClampNeg
  · subst hq
    simp [updV, upd]
  · simp [updV, upd, hq]
theorem sn_aastore : SI x D B0 l (.aastore, n, a, b, j, ee) k pc L S w mc ms post := by
  intro hd hw h
  obtain rfl : n = 1 := of_decide_eq_true hw
  obtain ⟨v, i, o, S, rfl, hv3, h⟩ := qsrir_e h
  obtain ⟨N, f, hwo, hin, h⟩ := qwQ_e h
  intro p e R s m args below meth c Q H locs cells slots ls hF hR hT hN hG hS h1 h2 hl
  obtain ⟨hx, hb, hml, hown, hts, hlk, hnm, htb, hE, hfr, hlo, htr⟩ := id hF
  obtain ⟨hat, hba⟩ := hG _ _ hwo
  have hlt : i.toNatClampNeg < N := Nat.not_le.mp fun q => hin (Or.inr q)
  have h0 : ¬ i < 0 := fun q => hin (Or.inl q)
  obtain ⟨ci, r, hci, hcast, vs, hwv⟩ : ∃ (ci : Nat) (r : vw_C), vwCl[ci]? = some r ∧ va_Nw (.castable r.1 "java/lang/Object") s ∧ ∃ vs, w v = some (.inr (ci, vs)) := by
    rcases hv3 with q | q | q
    · exact ⟨4, _, rfl, hE.2.1 _ (Or.inl (by decide +kernel)), qwK_e q⟩
    · exact ⟨1, _, rfl, hE.2.1 _ (Or.inl (by decide +kernel)), qwK_e q⟩
    · exact ⟨6, _, rfl, hE.2.1 _ (Or.inl (by decide +kernel)), qwK_e q⟩
  obtain ⟨r', hr', cellV, g1, g2, g3, -⟩ := (hG _ _ hwv).1
  cases Option.some.inj (hr'.symm.trans hci)
  have hcls := (hE.1.1 ci r hci).2
  obtain ⟨kA, comp, k1, k2, k3, -⟩ := (hE.1.2 3 _ rfl).2
  obtain ⟨kC, hkC, -⟩ := hcls.2
  obtain ⟨c0, t0, f1, f2, f3⟩ := Cond.castable_spec (va_Nw.use (A := args) rfl hcast)
  have e0 : c0 = D.1 ci := Option.some.inj (f1.symm.trans hcls.1)
  have e1 : t0 = comp := Option.some.inj (f2.symm.trans k3)
  subst e0; subst e1
  obtain ⟨kO, hkO, -⟩ := Vm.findClass_spec f2
  refine W.aast hx hb hat (fun q h => by cases h) (fun h => by cases h) k1 k2 rfl hkO ⟨h0, by show _ < (arrV _ _ _).slots.size; rw [arrV_size]; exact hlt⟩ g1 (fun q h => by rw [g3] at h; cases h) (by rw [g2]; exact hkC) (by rw [g2]; exact f3) rfl rfl hd fun H1 e1 z1 o1 => ?_
  refine h p e R s m args below meth c Q H1 _ cells slots ls hF hR hT hN (hG.set hba ?_ o1) (hS.put z1 o1 hba) h1 h2 hl
  show H1[o]? = some (vp_cell _ _)
  rw [e1]
  rw [vp_cell_q, vp_cell_q, arrV_store]
  congr 2
  funext q
  by_cases hq : q = i.toNatClampNeg
  · subst hq
    simp [updV, va_up, va_rf]
  · simp [updV, va_up, hq]
theorem sn_arraylength : SI x D B0 l (.arraylength, n, a, b, j, ee) k pc L S w mc ms post := by
  intro hd hw h
  obtain rfl : n = 1 := of_decide_eq_true hw
  obtain ⟨o, S, rfl, h⟩ := qsr_e h
  intro p e R s m args below meth c Q H locs cells slots ls hF hR hT hN hG hS h1 h2 hl
  obtain ⟨hx, hb, hml, hown, hts, hlk, hnm, htb, hE, hfr, hlo, htr⟩ := id hF
  obtain ⟨-, -, -, -, -, -, -, -, hTe, hX, hbx, hbz⟩ := id hE
  have h : qwA x (w o) o fun n => Snd x D B0 l k (pc + 1) L (.int (nI n) :: S) w mc ms post := h
  have h9 := qwA_e h
  clear h
  rcases h9 with ⟨rfl, hq⟩ | ⟨rfl, hq⟩ | ⟨N, f, t0, ty, ht0, hwo, hq⟩
  · obtain ⟨cell, g1, g2, g3, g4, g5, g6, g7⟩ := hTe
    have hlt := (Array.getElem?_eq_some_iff.mp g1).1
    exact W.alen hx hb (by rw [hS.2.1 _ hlt g7]; exact g1) g2 g5 rfl rfl hd (hq p e R s m args below meth c Q H locs cells slots ls hF hR hT hN hG hS h1 h2 hl)
  · exact va_slen hx hb hX (Nat.lt_of_lt_of_le hbx hbz) (Nat.not_le.mpr hbx) hS hd (hq p e R s m args below meth c Q H locs cells slots ls hF hR hT hN hG hS h1 h2 hl)
  · have hP : va_P D vwCl [(o, .inl (ty.1, N, f))] H := fun q z hz => by
      match q, hz with
      | 0, hz => cases hz; exact (hG _ _ hwo).1
      | q + 1, hz => simp at hz
    exact va_alen hx hb hE.1 hP 0 t0 rfl ht0 rfl hd (hq p e R s m args below meth c Q H locs cells slots ls hF hR hT hN hG hS h1 h2 hl)
end ROWS
