/-! Contracts out of the machine's words; the machine's word is the walk's. -/
def rmO (k : Nat) : Room := { frames := mF k, cells := mMC k, slots := mMS k, locals := mO k }
abbrev wsO (k : Nat) : List Cond := codeW k :: Tb
def PcO (x : Cx) (D : va_G) (B0 : Nat) (w : Wd) (As : List Value) : Array Value → State → Prop := va_Pc As (fun U => WEnv x D B0 U ∧ GW D B0 w U.heap)
def thrOK (a ic : Nat) : Bool := (vx_atS "SheetMaker" ic (exN a) exU).all (fun w => ((decide (w ∈ lw_tbl) && goodWord w) || ((decide (w ∈ nstW) || decide (w ∈ dcW)) && w.onTables)) && vx_ot w) && decide (Cond.initialized (exN a) ∈ lw_tbl) && goodWord (.initialized (exN a)) && Bundle.fit (exN a) && exU.all Bundle.fit
theorem thrOK_1 : thrOK 1 99 = true := by decide +kernel
theorem thrOK_2 : thrOK 2 220 = true := by decide +kernel
theorem thrOK_3 : thrOK 3 60 = true := by decide +kernel
theorem goodIn_O {k : Nat} (h : codeW k ∈ Tb) : GoodIn Tb (wsO k) := by
  intro w hw
  have h1 : w ∈ Tb := by
    rcases List.mem_cons.mp hw with rfl | hw
    · exact h
    · exact hw
  exact ⟨h1, good_of_word (List.mem_filter.mp h1).2⟩
theorem okC_e {k : Nat} (h : okC k = true) : codeW k ∈ Tb ∧ Cond.initialized (mY k).cls ∈ Tb ∧ (mT k = true → Cond.static (mY k) ∈ Tb) ∧ (mT k = false → Cond.instanceMethod (mY k) ∈ Tb ∧ ((mY k).name = "<init>" ∨ Cond.selects (mY k).cls (mY k) (mY k) ∈ Tb)) ∧ (mY k).cls ≠ "java/lang/invoke/MethodHandle" ∧ (mY k).cls ≠ "java/lang/invoke/VarHandle" ∧ plainName (mY k).cls = true := by
  simp only [okC, Bool.and_eq_true, decide_eq_true_eq] at h
  obtain ⟨⟨⟨⟨⟨h1, h2⟩, h3⟩, h4⟩, h5⟩, h6⟩ := h
  refine ⟨tb_mem h1, tb_mem h2, fun q => ?_, fun q => ?_, h4, h5, h6⟩
  · rw [q] at h3
    exact tb_mem h3
  · rw [q] at h3
    simp only [Bool.false_eq_true, if_false, Bool.and_eq_true, Bool.or_eq_true, beq_iff_eq] at h3
    exact ⟨tb_mem h3.1, h3.2.imp id tb_mem⟩
theorem PcO_blind {x : Cx} {D : va_G} {B0 : Nat} {w : Wd} {As : List Value} : FrameBlind (PcO x D B0 w As) := by
  rintro a U g mk ⟨q1, q2, q3⟩
  exact ⟨q1, q2.move (U := U.calling g mk a) (State.WarmedH.refl U) (Nat.le_refl _) (fun _ _ _ => rfl), q3⟩
theorem lv_args_at : ∀ (vs : List Value) (i j : Nat) (v : Value), vs.all cat1 = true → vs[j]? = some v → (i + j, v) ∈ lv_args i vs
  | [], i, j, v, _, h => by simp at h
  | u :: vs, i, j, v, hc, h => by
    simp only [List.all_cons, Bool.and_eq_true] at hc
    have hu : ¬ u.category = 2 := by rw [cat1_e hc.1]; decide
    simp only [lv_args, if_neg hu]
    cases j with
    | zero => simp only [List.getElem?_cons_zero] at h; cases h; exact List.mem_cons_self
    | succ j =>
      rw [List.getElem?_cons_succ] at h
      have := lv_args_at vs (i + 1) j v hc.2 h
      rw [show i + 1 + j = i + (j + 1) by omega] at this
      exact List.mem_cons_of_mem _ this
theorem lg_sl_len : ∀ (vs : List Value), vs.all cat1 = true → (lg_sl vs).length = vs.length
  | [], _ => rfl
  | u :: vs, hc => by
    simp only [List.all_cons, Bool.and_eq_true] at hc
    have hu : ¬ u.category = 2 := by rw [cat1_e hc.1]; decide
    have := lg_sl_len vs hc.2
    unfold lg_sl at this ⊢
    rw [List.flatMap_cons, if_neg hu]
    simp [this]
theorem lvR_entry {vs : List Value} {nL : Nat} (hc : vs.all cat1 = true) (hn : vs.length ≤ nL) : lvR ((lg_sl vs ++ List.replicate (nL - (lg_sl vs).length) Slot.unset).toArray) nL (vs.map some ++ List.replicate (nL - vs.length) none) := by
  have h := lv_entry vs (n := nL) (by rw [lg_sl_len vs hc]; exact hn)
  refine ⟨by simp; omega, h.1, h.2.1, fun i v hi => ?_⟩
  by_cases hl : i < vs.length
  · rw [List.getElem?_append_left (by simpa using hl), List.getElem?_map] at hi
    have hv : vs[i]? = some v := by
      cases hq : vs[i]? with
      | none => rw [hq] at hi; cases hi
      | some u => rw [hq] at hi; simpa using hi
    have hm := lv_args_at vs 0 i v hc hv
    rw [Nat.zero_add] at hm
    exact ⟨cat1_e (List.all_eq_true.mp hc v (List.mem_of_getElem? hv)), h.2.2 (i, v) hm⟩
  · rw [List.getElem?_append_right (by simp; omega)] at hi
    have := List.eq_of_mem_replicate (List.mem_of_getElem? hi)
    cases this
section MET
variable {x : Cx} {D : va_G} {B0 : Nat} {l : Launch}
set_option maxHeartbeats 1000000 in
theorem ends_of {k : Nat} {post : Po} {p : Program} {e : Env} {s s₁ : State} {m : MethodId} {args : Array Value} {below : List Frame} {meth : Method} {c : Code} (B : BodyLoose p l (mY k) (headSpec (wsO k) (rmO k)) (mB k) (mL k) (mR k) e s m args below meth c s₁)
    (hF : Fr x D B0 l k p (rmO k) s m args meth c) (ht : mH k = [] → ∀ y ∈ c.exceptionTable.toList, False) (hX : mH k ≠ [] → ∀ ex w', ¬ post (.inr ex) w') :
    EndR D B0 k p l e (rmO k) s m args below meth c (vx_MQ below (QcO D B0 post) (XcO D B0 post) args s (mMC k) (mMS k) (AA B0)) post ∧ EndT D B0 k p l e (rmO k) s m args below meth c (vx_MQ below (QcO D B0 post) (XcO D B0 post) args s (mMC k) (mMS k) (AA B0)) post ∧
    EndN D B0 k p l e (rmO k) s m args below meth c (vx_MQ below (QcO D B0 post) (XcO D B0 post) args s (mMC k) (mMS k) (AA B0)) post := by
  obtain ⟨hx, hb, hml, hown, hts, hlk, hnm, htb, hE, hfr, hlo, htr⟩ := id hF
  refine ⟨?_, ?_, ?_⟩
  · intro w H locs cells slots ls pc v hra hp hG hS hc hs
    refine W.widen (k := mMC k) (n := mMS k) hc hs (vx_ret ?_)
    have hq : ∀ t : State, t.heap = H → s.WarmedH t.vm → QcO D B0 post args s (.returned v) t := fun t ht _ => ⟨v, w, rfl, hp, by rw [ht]; exact hG, hS.F ht⟩
    rcases hra with ⟨hd, rfl, hmr⟩ | ⟨z, hd, rfl, hmr⟩ | ⟨u, hd, rfl, hu, rt, hmr, hrt⟩
    · exact W.vret hx hb (by rw [B.returns, hmr]) hq hS.2.2 hd hlk
    · rcases hmr with hmr | ⟨hmr, h01⟩
      · exact W.iret hx hb (by rw [B.returns, hmr]) hq hS.2.2 hd hlk
      · exact W.zret hx hb (by rw [B.returns, hmr]) (by rcases h01 with rfl | rfl <;> decide +kernel) hq hS.2.2 hd hlk
    · exact W.aret hx hb (by rw [B.returns, hmr]) hrt hu hq hS.2.2 hd hlk
  · intro w H locs cells slots ls pc rest ex q ce hh hp hG hS hc hs hcell hv hcl
    by_cases hne : mH k = []
    · exact vx_widen hc hs (vx_out (fun y hy => (ht hne y hy).elim) hlk hcell hv hcl (fun t ht _ => ⟨ex, w, rfl, hp, by rw [ht]; exact hG, hS.F ht⟩) hS.2.2 (Nat.le_refl _) (Nat.le_refl _))
    · exact absurd hp (hX hne ex w)
  · intro w H locs cells slots ls pc idx a b j rest hd hok hp hG hS hc hs hrl hls
    simp only [okX, Bool.and_eq_true, decide_eq_true_eq] at hok
    obtain ⟨⟨⟨⟨⟨⟨⟨⟨⟨⟨g1, g2⟩, g3⟩, g4⟩, g5⟩, g6⟩, g7⟩, g8⟩, g9⟩, g10⟩, g11⟩ := hok
    obtain ⟨sq, hsq1, hsq2⟩ := List.any_eq_true.mp g11
    simp only [decide_eq_true_eq] at hsq2
    obtain ⟨sa, hsa⟩ := hE.2.2.1 sq hsq1
    rw [hsq2] at hsa
    have hthr : thrOK a (b / 1000) = true := by
      rcases g10 with q | q | q <;> (rw [Prod.mk.injEq] at q; rw [q.1, q.2])
      · exact thrOK_1
      · exact thrOK_2
      · exact thrOK_3
    simp only [thrOK, Bool.and_eq_true, decide_eq_true_eq, List.all_eq_true, Bool.or_eq_true] at hthr
    obtain ⟨⟨⟨⟨t1, t2⟩, t3⟩, t4⟩, t5⟩ := hthr
    have hk := hts _ (tb_mem g3)
    rw [g2] at hk hown
    have hsz : s.heap.size ≤ H.size := hS.1
    refine vx_throwS (own := "SheetMaker") (cls := exN a) (names := exU) (ik := idx) (is := b % 1000) (ic := b / 1000) (A := AA B0) hx hb htr hown t4 t5 hk (hts _ (List.mem_filter.mpr ⟨t2, t3⟩)) hsa (fun w0 hw0 => ?_) (fun w0 hw0 => ?_) hE.2.2.2.2.2.1 hE.2.2.2.2.2.2.1 hS (hls.trans hml.symm) hd g4 g5 g6 g7 (fun y hy => (ht g1 y hy).elim) (by show 2 + 3 < mF k; omega) (by have := rest8 rest hrl; show _ + (13 * (2 + 1) + 43) ≤ mO k; omega) hc hs hlk ?_ hS.2.2 hc hs
    · rcases (t1 w0 hw0).1 with q | q
      · exact hts _ (List.mem_filter.mpr q)
      · exact va_Nw.use q.2 (hE.2.1 w0 q.1)
    · rcases List.mem_cons.mp hw0 with rfl | hw0
      · rfl
      · rcases List.mem_cons.mp hw0 with rfl | hw0
        · rfl
        · exact (t1 w0 hw0).2
    · intro t _ hz1 hz2
      refine ⟨a, w, rfl, hp, fun y f hy => ⟨(hG y f hy).1.kept (hz2 y (hG.lt hy)), (hG y f hy).2⟩, Nat.le_trans hsz hz1, fun q q1 q2 => (hz2 q (Nat.lt_of_lt_of_le q1 hsz)).trans (hS.2.1 q q1 q2)⟩
theorem met_of {k : Nat} {As : List Value} {w : Wd} {R : Po} (hS : Snd x D B0 l k 0 (As.map some ++ List.replicate (mL k - As.length) none) [] w (mMC k) (mMS k) R) (ha : As.all cat1 = true) (hlen : As.length ≤ mL k) (hk : okC k = true) (htr : l.stackTraces = false) (hX : mH k ≠ [] → ∀ ex w', ¬ R (.inr ex) w') :
    vx_Met l (mY k) (wsO k) (rmO k) (PcO x D B0 w As) (QcO D B0 R) (XcO D B0 R) (mMC k) (mMS k) (AA B0) := by
  obtain ⟨-, -, -, -, -, -, hpl⟩ := okC_e hk
  have core : ∀ (p : Program) (e : Env) (s : State) (m : MethodId) (args : Array Value) (below : List Frame) (meth : Method) (c : Code) (s₁ : State), BodyLoose p l (mY k) (headSpec (wsO k) (rmO k)) (mB k) (mL k) (mR k) e s m args below meth c s₁ → c.maxLocals = mL k → (mH k = [] → ∀ y ∈ c.exceptionTable.toList, False) → (mH k ≠ [] → c.exceptionTable.toList = tableOf (mH k)) → PcO x D B0 w As args s →
      W p l e (rmO k) s m args below meth c s.heap [] 0 0 (vx_MQ below (QcO D B0 R) (XcO D B0 R) args s (mMC k) (mMS k) (AA B0)) (entryFrame m args (mL k)) := by
    rintro p e s m args below meth c s₁ B hml ht htb ⟨rfl, hE, hG⟩
    have hF : Fr x D B0 l k p (rmO k) s m As.toArray meth c := ⟨B.exec, B.bytes, hml, findClass_of_methodNamed B.named, fun w0 hw0 => atoms_spec (ws := wsO k) B.pre w0 (List.mem_cons_of_mem _ hw0), B.notSynchronized, (name_of_methodNamed B.named B.method).1, htb, hE, Nat.le_refl _, Nat.le_refl _, htr⟩
    obtain ⟨e1, e2, e3⟩ := ends_of B hF ht hX
    rw [lg_entry_eq]
    exact hS p e (rmO k) s m As.toArray below meth c _ s.heap [] 0 0 _ hF e1 e2 e3 hG va_S.rf (by show 0 + mMC k ≤ mMC k; omega) (by show 0 + mMS k ≤ mMS k; omega) (lvR_entry ha hlen)
  by_cases hH : mH k = []
  · exact vx_ofW (cc := mB k) (maxL := mL k) (ret := mR k) (ws' := Tb) hpl (by unfold wsO codeW; rw [if_pos hH]) (fun p e s m args below meth c s₁ B hml ht hv => core p e s m args below meth c s₁ B hml (fun _ => ht) (fun q => absurd hH q) hv)
  · refine vx_ofWH (cc := mB k) (maxL := mL k) (ret := mR k) (hh := mH k) (ws' := Tb) hpl (by unfold wsO codeW; rw [if_neg hH]) (fun p e s m args below meth c s₁ B hml hv => core p e s m args below meth c s₁ B hml (fun q => absurd q hH) (fun _ => vx_table (x := mY k) (y := mY k) (bytes := mB k) (maxL' := mL k) (ret' := mR k) B ?_) hv)
    refine atoms_spec (ws := wsO k) B.pre _ ?_
    unfold wsO codeW
    rw [if_neg hH]
    exact List.mem_cons_self
/-- a callee that doesn't throw -/
theorem met_N {k : Nat} {As : List Value} {w : Wd} {R : Po} (h : vx_Met l (mY k) (wsO k) (rmO k) (PcO x D B0 w As) (QcO D B0 R) (XcO D B0 R) (mMC k) (mMS k) (AA B0)) (hX : ∀ ex w', ¬ R (.inr ex) w') : Met l (mY k) (wsO k) (rmO k) (PcO x D B0 w As) (QcO D B0 R) (mMC k) (mMS k) (AA B0) := by
  intro p e ha hc hk s m args below hf happ hP hT
  obtain ⟨n, o, h1, h2, h3, h4⟩ := h p e ha hc hk s m args below hf happ hP hT
  refine ⟨n, o, h1, h2, h3, ?_⟩
  rcases h4 with h4 | ⟨q, -, E, ce, L, ⟨ex, w', -, hp, -⟩, -⟩
  · exact h4
  · exact absurd hp (hX ex w')
end MET
section CALLR
variable {x : Cx} {D : va_G} {B0 : Nat} {l : Launch} {k pc : Nat} {L : Lc} {S : List Value} {w : Wd} {mc ms : Nat} {post : Po} {n a b j ee : Nat}
theorem okRoom_e {m k : Nat} (h : okRoom m k = true) : mF k + 1 ≤ mF m ∧ 8 + (mL k + 11) + mO k ≤ mO m := by
  simpa only [okRoom, Bool.and_eq_true, decide_eq_true_eq] using h
set_option maxHeartbeats 1000000 in
theorem sn_invokevirtual {i : Nat} : SI x D B0 l (.invokevirtual i, n, a, b, j, ee) k pc L S w mc ms post := by
  intro hd hw0 h0
  have hw : (decide (n = 3) && decide (1 ≤ b) && decide (a < 107) && okC a && tb j (.methodLink (mY k).cls i (mY a)) && !mT a && !((mY a).name == "<init>") && okPar a (b - 1) && okRoom k a && decide ((vwCl[mI a]?).map (fun r => r.1) = some (mY a).cls) && decide (mH a = [])) = true := hw0
  simp only [Bool.and_eq_true, decide_eq_true_eq, Bool.not_eq_true', okPar] at hw
  obtain ⟨⟨⟨⟨⟨⟨⟨⟨⟨⟨rfl, hb1⟩, -⟩, hok⟩, hml0⟩, hst⟩, hni⟩, hpar⟩, hroom⟩, hci⟩, hnh⟩ := hw
  obtain ⟨c1, c2, -, c4, c5, c6, -⟩ := okC_e hok
  obtain ⟨c7, c8⟩ := c4 hst
  have c8 : Cond.selects (mY a).cls (mY a) (mY a) ∈ Tb := by
    rcases c8 with q | q
    · rw [beq_eq_false_iff_ne] at hni; exact absurd q hni
    · exact q
  have h : qtk b S [] fun args rest => rcv w args (mI a) ∧ rest.length ≤ 4 ∧ mMC a ≤ mc ∧ mMS a ≤ ms ∧ CLF (Snd x D B0 l) a args w (aftF (Snd x D B0 l) k pc (pc + 3) L rest (mc - mMC a) (ms - mMS a) post) := h0
  obtain ⟨As0, rest, hSt, hAl, hrc, hr4, hm1, hm2, ⟨hal, hln⟩, Rr, hC, hK⟩ := qtk_e b S [] h
  rw [List.append_nil] at hrc hal hln hC
  obtain ⟨r1, r2⟩ := okRoom_e hroom
  intro p e R s m args below meth c Q H locs cells slots ls hF hR hT hN hG hS h1 h2 hl
  obtain ⟨hx, hb, hml, hown, hts, hlk, hnm, htb, hE, hfr, hlo, htr⟩ := id hF
  match As0, hrc with
  | .ref o :: As, hrc =>
  obtain ⟨fs, hwo⟩ := qwK_e hrc
  obtain ⟨r, hr⟩ : ∃ r, vwCl[mI a]? = some r := by
    cases q : vwCl[mI a]? with
    | none => rw [q] at hci; cases hci
    | some r => exact ⟨r, rfl⟩
  rw [hr] at hci
  have hci : r.1 = (mY a).cls := Option.some.inj hci
  obtain ⟨r', g1, cell, q1, q2, q3, q4⟩ := (hG _ _ hwo).1
  cases Option.some.inj (g1.symm.trans hr)
  have hM := met_of hC hal hln hok htr (fun q => absurd hnh q)
  have hcw : codeW a = .code (mY a) (mB a) (mL a) (mR a) := by unfold codeW; rw [if_pos hnh]
  refine run_on (uc := mMC a) (us := mMS a) (vx_runV (As := As) (rest := rest) (Ts := Tb) (own := (mY k).cls) (C := (mY a).cls) (n := As.length) ⟨hx, hb, hml, hown, hts⟩ hM ⟨callB_of (ws' := Tb) (bytes := mB a) (maxL := mL a) (ret := mR a) _ hts (goodIn_O c1) (by rw [← hcw]) rfl rfl (hts _ c2) (hts _ (tb_mem hml0)) ⟨c5, c6, ?_⟩ ⟨by show mF a + 1 ≤ _; omega, by show 8 + (mL a + 11) + mO a ≤ _; omega⟩, hts _ c7, hts _ c8⟩
    ⟨PcO_blind, ⟨cell, q1, by rw [q3]; rfl, by rw [q2, ← hci]; exact (hE.1.1 _ _ hr).2.1⟩, fun U hU hW => ⟨rfl, hE.move hW (by rw [hU]; exact hS.1) (fun q z1 z2 => by rw [hU]; exact hS.2.1 q z1 z2), by rw [hU]; exact hG⟩⟩ rfl rfl (hl.2.1) (by show S = _; rw [hSt]; simp) (lv_room (rest8 rest hr4)) hd ⟨by omega, by omega⟩) rfl hK hF hR hT hN hS (by omega) (by omega) hl
  rw [hpar, ← hAl]
  rfl
set_option maxHeartbeats 1000000 in
theorem sn_invokespecial {i : Nat} : SI x D B0 l (.invokespecial i, n, a, b, j, ee) k pc L S w mc ms post := by
  intro hd hw0 h0
  have hw : (decide (n = 3) && (if ee = 2 then tb j (.methodLink (mY k).cls i Lib.objectInit) && decide (1 ≤ mF k) && decide (20 ≤ mO k) else
        decide (1 ≤ b) && decide (a < 107) && okC a && (if ee = 1 then decide (Cond.methodLinkNest (mY k).cls i (mY a) "SheetMaker" ∈ nstW) else tb j (.methodLink (mY k).cls i (mY a))) && !mT a && ((mY a).name == "<init>") && okPar a (b - 1) && okRoom k a && decide (mH a = []) && decide (mR a = none))) = true := hw0
  simp only [Bool.and_eq_true, decide_eq_true_eq] at hw
  obtain ⟨rfl, hw⟩ := hw
  have h : (if ee = 2 then qsr S fun _ S => S.length ≤ 4 ∧ Snd x D B0 l k (pc + 3) L S w mc ms post else
      qtk b S [] fun args rest => rcI args ∧ rest.length ≤ 4 ∧ mMC a ≤ mc ∧ mMS a ≤ ms ∧ CLF (Snd x D B0 l) a args w (aftN (Snd x D B0 l) k (pc + 3) L rest (mc - mMC a) (ms - mMS a) post)) := h0
  by_cases he : ee = 2
  · rw [if_pos he] at h hw
    simp only [Bool.and_eq_true, decide_eq_true_eq] at hw
    obtain ⟨⟨g1, g2⟩, g3⟩ := hw
    obtain ⟨o, S, rfl, hr4, h⟩ := qsr_e h
    intro p e R s m args below meth c Q H locs cells slots ls hF hR hT hN hG hS h1 h2 hl
    obtain ⟨hx, hb, hml, hown, hts, hlk, hnm, htb, hE, hfr, hlo, htr⟩ := id hF
    refine W.objInit hx hb hown (hts _ (tb_mem g1)) (hts _ (List.mem_filter.mpr ⟨by decide +kernel, by decide +kernel⟩)) (hts _ (List.mem_filter.mpr ⟨by decide +kernel, by decide +kernel⟩)) rfl (by rw [hml]; exact hl.2.1) rfl hd (by omega) (by have := rest8 S hr4; show 2 * 0 + _ + 12 ≤ _; omega) ?_
    exact h p e R s m args below meth c Q H locs cells slots ls hF hR hT hN hG hS h1 h2 hl
  · rw [if_neg he] at h hw
    simp only [Bool.and_eq_true, decide_eq_true_eq, Bool.not_eq_true', okPar, beq_iff_eq] at hw
    obtain ⟨⟨⟨⟨⟨⟨⟨⟨⟨hb1, -⟩, hok⟩, hlnk⟩, hst⟩, hni⟩, hpar⟩, hroom⟩, hnh⟩, hmr⟩ := hw
    obtain ⟨c1, c2, -, c4, c5, c6, -⟩ := okC_e hok
    obtain ⟨c7, -⟩ := c4 hst
    obtain ⟨As0, rest, hSt, hAl, hrc, hr4, hm1, hm2, ⟨hal, hln⟩, Rr, hC, hK⟩ := qtk_e b S [] h
    rw [List.append_nil] at hrc hal hln hC
    obtain ⟨r1, r2⟩ := okRoom_e hroom
    intro p e R s m args below meth c Q H locs cells slots ls hF hR hT hN hG hS h1 h2 hl
    obtain ⟨hx, hb, hml, hown, hts, hlk, hnm, htb, hE, hfr, hlo, htr⟩ := id hF
    match As0, hrc with
    | .ref o :: As, hrc =>
    have hM := met_N (met_of hC hal hln hok htr (fun q => absurd hnh q)) (fun ex w' q => hK _ _ q)
    have hcw : codeW a = .code (mY a) (mB a) (mL a) none := by unfold codeW; rw [if_pos hnh, hmr]
    have hpn : (parseMethodDescriptor (mY a).desc).map (fun d => d.parameters.length) = some As.length := by rw [hpar, ← hAl]; rfl
    have hp : PreS s H (PcO x D B0 w (.ref o :: As)) (.ref o :: As) := ⟨PcO_blind, fun U hU hW => ⟨rfl, hE.move hW (by rw [hU]; exact hS.1) (fun q z1 z2 => by rw [hU]; exact hS.2.1 q z1 z2), by rw [hU]; exact hG⟩⟩
    by_cases hn1 : ee = 1
    · rw [if_pos hn1] at hlnk
      simp only [decide_eq_true_eq] at hlnk
      exact run_onN (uc := mMC a) (us := mMS a) (va_runIN (As := As) (rest := rest) (Ts := Tb) (own := (mY k).cls) (n := As.length) ⟨hx, hb, hml, hown, hts⟩ hM ⟨va_cnB (ws' := Tb) (bytes := mB a) (maxL := mL a) (ret := none) _ hts (goodIn_O c1) (by rw [← hcw]) rfl rfl (hE.2.1 _ (Or.inl hlnk)) (hts _ c2) ⟨c5, c6, hpn⟩ ⟨by show mF a + 1 ≤ _; omega, by show 8 + (mL a + 11) + mO a ≤ _; omega⟩, hni, hts _ c7⟩
        hp rfl rfl (hl.2.1) (by show S = _; rw [hSt]; simp) (lv_room (rest8 rest hr4)) hd ⟨by omega, by omega⟩) rfl hK hF hR hT hN hS (by omega) (by omega) hl
    · rw [if_neg hn1] at hlnk
      exact run_onN (uc := mMC a) (us := mMS a) (va_runI (As := As) (rest := rest) (Ts := Tb) (own := (mY k).cls) (n := As.length) ⟨hx, hb, hml, hown, hts⟩ hM ⟨callB_of (ws' := Tb) (bytes := mB a) (maxL := mL a) (ret := none) _ hts (goodIn_O c1) (by rw [← hcw]) rfl rfl (hts _ c2) (hts _ (tb_mem hlnk)) ⟨c5, c6, hpn⟩ ⟨by show mF a + 1 ≤ _; omega, by show 8 + (mL a + 11) + mO a ≤ _; omega⟩, hni, hts _ c7⟩
        hp rfl rfl (hl.2.1) (by show S = _; rw [hSt]; simp) (lv_room (rest8 rest hr4)) hd ⟨by omega, by omega⟩) rfl hK hF hR hT hN hS (by omega) (by omega) hl
set_option maxHeartbeats 1000000 in
theorem sn_invokestatic {i : Nat} : SI x D B0 l (.invokestatic i, n, a, b, j, ee) k pc L S w mc ms post := by
  intro hd hw0 h0
  have hw : (decide (n = 3) && (if ee = 3 then tb j (.methodLink (mY k).cls i Lib.Math.abs.name) && decide (1 ≤ mF k) && decide (21 ≤ mO k) else if ee = 4 then tb j (.methodLink (mY k).cls i Lib.Math.max.name) && decide (1 ≤ mF k) && decide (21 ≤ mO k) else decide (a < 107) && okC a && (if ee = 1 then decide (Cond.methodLinkNest (mY k).cls i (mY a) "SheetMaker" ∈ nstW) && decide (mH a = []) else tb j (.methodLink (mY k).cls i (mY a))) && mT a && okPar a b && okRoom k a)) = true := hw0
  simp only [Bool.and_eq_true, decide_eq_true_eq] at hw
  obtain ⟨rfl, hw⟩ := hw
  have h : (if ee = 3 then qs1 S fun a S => S.length ≤ 4 ∧ Snd x D B0 l k (pc + 3) L (.int (if 0 ≤ a then a else 0 - a) :: S) w mc ms post else
      if ee = 4 then qs2 S fun a b S => S.length ≤ 4 ∧ Snd x D B0 l k (pc + 3) L (.int (if a < b then b else a) :: S) w mc ms post else
      if ee = 1 ∨ mH a ≠ [] then qtk b S [] fun args rest => rest.length ≤ 4 ∧ mMC a ≤ mc ∧ mMS a ≤ ms ∧
      CLF (Snd x D B0 l) a args w (aftN (Snd x D B0 l) k (pc + 3) L rest (mc - mMC a) (ms - mMS a) post) else qtk b S [] fun args rest => rest.length ≤ 4 ∧ mMC a ≤ mc ∧ mMS a ≤ ms ∧
      CLF (Snd x D B0 l) a args w (aftF (Snd x D B0 l) k pc (pc + 3) L rest (mc - mMC a) (ms - mMS a) post)) := h0
  by_cases he3 : ee = 3
  · rw [if_pos he3] at h hw
    simp only [Bool.and_eq_true, decide_eq_true_eq] at hw
    obtain ⟨⟨g1, g2⟩, g3⟩ := hw
    obtain ⟨o, S, rfl, hr4, h⟩ := qs1_e h
    intro p e R s m args below meth c Q H locs cells slots ls hF hR hT hN hG hS h1 h2 hl
    obtain ⟨hx, hb, hml, hown, hts, hlk, hnm, htb, hE, hfr, hlo, htr⟩ := id hF
    have hm := fun w0 hw0 => hts _ (mw_abs w0 hw0)
    exact va_mabs hx hb (hml.trans hl.2.1.symm) hown (hts _ (tb_mem g1)) (hm _ (by simp)) (hm _ (by simp)) (hm _ (by simp)) (by omega) (by have := rest8 S hr4; omega) (by omega) (by omega) hd (h p e R s m args below meth c Q H locs cells slots ls hF hR hT hN hG hS h1 h2 hl)
  rw [if_neg he3] at h hw
  by_cases he4 : ee = 4
  · rw [if_pos he4] at h hw
    simp only [Bool.and_eq_true, decide_eq_true_eq] at hw
    obtain ⟨⟨g1, g2⟩, g3⟩ := hw
    obtain ⟨u, v, S, rfl, hr4, h⟩ := qs2_e h
    intro p e R s m args below meth c Q H locs cells slots ls hF hR hT hN hG hS h1 h2 hl
    obtain ⟨hx, hb, hml, hown, hts, hlk, hnm, htb, hE, hfr, hlo, htr⟩ := id hF
    have hm := fun w0 hw0 => hts _ (mw_max w0 hw0)
    exact va_mmax hx hb (hml.trans hl.2.1.symm) hown (hts _ (tb_mem g1)) (hm _ (by simp)) (hm _ (by simp)) (hm _ (by simp)) (by omega) (by have := rest8 S hr4; omega) (by omega) (by omega) hd (h p e R s m args below meth c Q H locs cells slots ls hF hR hT hN hG hS h1 h2 hl)
  rw [if_neg he4] at h hw
  simp only [Bool.and_eq_true, decide_eq_true_eq, okPar] at hw
  obtain ⟨⟨⟨⟨⟨-, hok⟩, hlnk⟩, hst⟩, hpar⟩, hroom⟩ := hw
  obtain ⟨c1, c2, c3, -, c5, c6, -⟩ := okC_e hok
  have c3 := c3 hst
  obtain ⟨r1, r2⟩ := okRoom_e hroom
  by_cases hnx : ee = 1 ∨ mH a ≠ []
  · rw [if_pos hnx] at h
    obtain ⟨As, rest, hSt, hAl, hr4, hm1, hm2, ⟨hal, hln⟩, Rr, hC, hK⟩ := qtk_e b S [] h
    rw [List.append_nil] at hal hln hC
    intro p e R s m args below meth c Q H locs cells slots ls hF hR hT hN hG hS h1 h2 hl
    obtain ⟨hx, hb, hml, hown, hts, hlk, hnm, htb, hE, hfr, hlo, htr⟩ := id hF
    have hM := met_N (met_of hC hal hln hok htr (fun _ ex w' q => hK _ _ q)) (fun ex w' q => hK _ _ q)
    have hpn : (parseMethodDescriptor (mY a).desc).map (fun d => d.parameters.length) = some As.length := by rw [hpar, ← hAl]
    have hp : PreS s H (PcO x D B0 w As) As := ⟨PcO_blind, fun U hU hW => ⟨rfl, hE.move hW (by rw [hU]; exact hS.1) (fun q z1 z2 => by rw [hU]; exact hS.2.1 q z1 z2), by rw [hU]; exact hG⟩⟩
    by_cases hn1 : ee = 1
    · rw [if_pos hn1] at hlnk
      simp only [Bool.and_eq_true, decide_eq_true_eq] at hlnk
      have hcw : codeW a = .code (mY a) (mB a) (mL a) (mR a) := by unfold codeW; rw [if_pos hlnk.2]
      exact run_onN (uc := mMC a) (us := mMS a) (va_runSN (As := As) (rest := rest) (Ts := Tb) (own := (mY k).cls) (n := As.length) ⟨hx, hb, hml, hown, hts⟩ hM ⟨va_cnB (ws' := Tb) (bytes := mB a) (maxL := mL a) (ret := mR a) _ hts (goodIn_O c1) (by rw [← hcw]) rfl rfl (hE.2.1 _ (Or.inl hlnk.1)) (hts _ c2) ⟨c5, c6, hpn⟩ ⟨by show mF a + 1 ≤ _; omega, by show 8 + (mL a + 11) + mO a ≤ _; omega⟩, hts _ c3, trivial⟩
        hp rfl rfl (hl.2.1) (by show S = _; rw [hSt]) (lv_room (rest8 rest hr4)) hd ⟨by omega, by omega⟩) rfl hK hF hR hT hN hS (by omega) (by omega) hl
    · rw [if_neg hn1] at hlnk
      have hne : mH a ≠ [] := hnx.resolve_left hn1
      have hcw : codeW a = .codeWith (mY a) (mB a) (mL a) (mR a) (mH a) := by unfold codeW; rw [if_neg hne]
      have hcA : Cond.codeWith (mY a) (mB a) (mL a) (mR a) (mH a) ∈ wsO a := by unfold wsO; rw [hcw]; exact List.mem_cons_self
      exact run_onN (uc := mMC a) (us := mMS a) (vx_runSW (hh := mH a) (bytes := mB a) (maxL := mL a) (ret := mR a) (As := As) (rest := rest) (Ts := Tb) (own := (mY k).cls) (n := As.length) ⟨hx, hb, hml, hown, hts⟩ hM ⟨⟨rfl, rfl, by show mF a + 1 ≤ _; omega, by show 8 + (mL a + 11) + mO a ≤ _; omega, pay_in hts (goodIn_O c1), hcA⟩, hts _ ((goodIn_O c1) _ hcA).1, hts _ c2, ⟨c5, c6⟩, fun sig hsg => by rw [hsg] at hpn; exact (Option.some.inj hpn).symm, hts _ (tb_mem hlnk), hts _ c3⟩
        hp rfl rfl (hl.2.1) (by show S = _; rw [hSt]) (lv_room (rest8 rest hr4)) hd ⟨by omega, by omega⟩) rfl hK hF hR hT hN hS (by omega) (by omega) hl
  · rw [if_neg hnx] at h
    obtain ⟨As, rest, hSt, hAl, hr4, hm1, hm2, ⟨hal, hln⟩, Rr, hC, hK⟩ := qtk_e b S [] h
    rw [List.append_nil] at hal hln hC
    intro p e R s m args below meth c Q H locs cells slots ls hF hR hT hN hG hS h1 h2 hl
    obtain ⟨hx, hb, hml, hown, hts, hlk, hnm, htb, hE, hfr, hlo, htr⟩ := id hF
    have hn1 : ¬ ee = 1 := fun q => hnx (Or.inl q)
    have hnh : mH a = [] := Classical.byContradiction fun q => hnx (Or.inr q)
    rw [if_neg hn1] at hlnk
    have hM := met_of hC hal hln hok htr (fun q => absurd hnh q)
    have hcw : codeW a = .code (mY a) (mB a) (mL a) (mR a) := by unfold codeW; rw [if_pos hnh]
    have hpn : (parseMethodDescriptor (mY a).desc).map (fun d => d.parameters.length) = some As.length := by rw [hpar, ← hAl]
    have hp : PreS s H (PcO x D B0 w As) As := ⟨PcO_blind, fun U hU hW => ⟨rfl, hE.move hW (by rw [hU]; exact hS.1) (fun q z1 z2 => by rw [hU]; exact hS.2.1 q z1 z2), by rw [hU]; exact hG⟩⟩
    exact run_on (uc := mMC a) (us := mMS a) (vx_runS (As := As) (rest := rest) (Ts := Tb) (own := (mY k).cls) (n := As.length) ⟨hx, hb, hml, hown, hts⟩ hM ⟨callB_of (ws' := Tb) (bytes := mB a) (maxL := mL a) (ret := mR a) _ hts (goodIn_O c1) (by rw [← hcw]) rfl rfl (hts _ c2) (hts _ (tb_mem hlnk)) ⟨c5, c6, hpn⟩ ⟨by show mF a + 1 ≤ _; omega, by show 8 + (mL a + 11) + mO a ≤ _; omega⟩, hts _ c3⟩
      hp rfl rfl (hl.2.1) (by show S = _; rw [hSt]) (lv_room (rest8 rest hr4)) hd ⟨by omega, by omega⟩) rfl hK hF hR hT hN hS (by omega) (by omega) hl
end CALLR
set_option maxHeartbeats 4000000 in
theorem sn_step {x : Cx} {D : va_G} {B0 : Nat} {l : Launch} {k pc : Nat} {L : Lc} {S : List Value} {w : Wd} {mc ms : Nat} {post : Po} (h : stepP x (Snd x D B0 l) k pc L S w mc ms post) : Snd x D B0 l k pc L S w mc ms post := by
  unfold stepP at h
  split at h
  · exact h.elim
  · rename_i ai hc
    obtain ⟨hd, hw⟩ := ok_at hc
    obtain ⟨i, n, a, b, j, ee⟩ := ai
    cases i
    case iconst => exact sn_iconst hd hw h
    case bipush => exact sn_bipush hd hw h
    case sipush => exact sn_sipush hd hw h
    case aconst_null => exact sn_null hd hw h
    case ldc => exact sn_ldc hd hw h
    case ldc_w => exact sn_ldc_w hd hw h
    case iload_n => exact sn_iload_n hd hw h
    case iload => exact sn_iload hd hw h
    case aload_n => exact sn_aload_n hd hw h
    case aload => exact sn_aload hd hw h
    case istore_n => exact sn_istore_n hd hw h
    case istore => exact sn_istore hd hw h
    case astore_n => exact sn_astore_n hd hw h
    case astore => exact sn_astore hd hw h
    case iinc => exact sn_iinc hd hw h
    case iadd => exact sn_iadd hd hw h
    case isub => exact sn_isub hd hw h
    case imul => exact sn_imul hd hw h
    case idiv => exact sn_idiv hd hw h
    case irem => exact sn_irem hd hw h
    case ineg => exact sn_ineg hd hw h
    case iand => exact sn_iand hd hw h
    case ixor => exact sn_ixor hd hw h
    case ishl => exact sn_ishl hd hw h
    case ishr => exact sn_ishr hd hw h
    case iushr => exact sn_iushr hd hw h
    case dup => exact sn_dup hd hw h
    case pop => exact sn_pop hd hw h
    case dup_x1 => exact sn_dup_x1 hd hw h
    case dup2 => exact sn_dup2 hd hw h
    case goto => exact sn_goto hd hw h
    case ifCond c o => cases c <;> first | exact sn_if_eq hd hw h | exact sn_if_ne hd hw h | exact sn_if_lt hd hw h | exact sn_if_ge hd hw h | exact sn_if_gt hd hw h | exact sn_if_le hd hw h
    case if_icmp c o => cases c <;> first | exact sn_icmp_eq hd hw h | exact sn_icmp_ne hd hw h | exact sn_icmp_lt hd hw h | exact sn_icmp_ge hd hw h | exact sn_icmp_gt hd hw h | exact sn_icmp_le hd hw h
    case if_acmp c o => cases c <;> first | exact sn_acmp_eq hd hw h | exact sn_acmp_ne hd hw h
    case getfield => exact sn_getfield hd hw h
    case putfield => exact sn_putfield hd hw h
    case iaload => exact sn_iaload hd hw h
    case aaload => exact sn_aaload hd hw h
    case iastore => exact sn_iastore hd hw h
    case aastore => exact sn_aastore hd hw h
    case arraylength => exact sn_arraylength hd hw h
    case newarray => exact sn_newarray hd hw h
    case anewarray => exact sn_anewarray hd hw h
    case new => exact sn_new hd hw h
    case invokestatic => exact sn_invokestatic hd hw h
    case invokevirtual => exact sn_invokevirtual hd hw h
    case invokespecial => exact sn_invokespecial hd hw h
    case return_ => exact sn_return hd hw h
    case ireturn => exact sn_ireturn hd hw h
    case areturn => exact sn_areturn hd hw h
    case checkcast => exact sn_checkcast hd hw h
    case getstatic => exact sn_getstatic hd hw h
    case tableswitch => exact sn_tableswitch hd hw h
    all_goals exact absurd h (by simp [stepI])
/-- WHAT THE SMALL MACHINE COMES TO, THE WALK COMES TO -/
theorem sound {x : Cx} {D : va_G} {B0 : Nat} {l : Launch} {k pc : Nat} {L : Lc} {S : List Value} {w : Wd} {mc ms : Nat} {post : Po} (h : WP x k pc L S w mc ms post) : Snd x D B0 l k pc L S w mc ms post :=
  h (Snd x D B0 l) (fun _ _ _ _ _ _ _ _ h => sn_step h)
