/-! Makings, returns, calls; the machine's word is the walk's. -/
section ROWS2
variable {x : Cx} {D : va_G} {B0 : Nat} {l : Launch} {k pc : Nat} {L : Lc} {S : List Value} {w : Wd} {mc ms : Nat} {post : Po} {n a b j ee : Nat}
theorem frs_of {s : State} {H : Heap} {locs : List Loc} (hE : WEnv x D B0 s) (hG : GW D B0 w H) (hS : va_S (AA B0) s.heap H locs) : frs x w H.size ∧ B0 ≤ H.size := by
  obtain ⟨-, -, -, -, -, -, -, -, ⟨cell, -, -, -, -, -, -, g7⟩, -, hbx, hbz⟩ := hE
  have hz := Nat.le_trans hbz hS.1
  have g8 : ¬ B0 ≤ xE x := g7
  exact ⟨⟨hG.new, by omega, by omega⟩, hz⟩
theorem va_S.grow {A : Nat → Prop} {H0 H H1 : Heap} {locs : List Loc} (h : va_S A H0 H locs) (z : H1.size = H.size + 1) (o1 : ∀ q : Nat, q < H.size → H1[q]? = H[q]?) : va_S A H0 H1 locs :=
  ⟨Nat.le_trans h.1 (by omega), fun q h1 h2 => (o1 q (Nat.lt_of_lt_of_le h1 h.1)).trans (h.2.1 q h1 h2), h.2.2⟩
theorem sn_new {i : Nat} : SI x D B0 l (.new i, n, a, b, j, ee) k pc L S w mc ms post := by
  intro hd hw0 h0
  have hw : (decide (n = 3) && (if ee = 1 then okX k pc a b j i else okN k a b j i)) = true := hw0
  simp only [Bool.and_eq_true, decide_eq_true_eq] at hw
  obtain ⟨rfl, hw⟩ := hw
  have h : (if ee = 1 then (1 ≤ mc ∧ 6 ≤ ms ∧ S.length ≤ 4 ∧ post (.inr a) w) else 1 ≤ mc ∧ b ≤ ms ∧ ∀ o : Nat, frs x w o → Snd x D B0 l k (pc + 3) L (.ref o :: S) (va_up w o (some (eO a (dfl a)))) (mc - 1) (ms - b) post) := h0
  intro p e R s m args below meth c Q H locs cells slots ls hF hR hT hN hG hS h1 h2 hl
  obtain ⟨hx, hb, hml, hown, hts, hlk, hnm, htb, hE, hfr, hlo, htr⟩ := id hF
  by_cases hee : ee = 1
  · rw [if_pos hee] at h hw
    obtain ⟨g1, g2, g3, g4⟩ := h
    exact hN w H locs cells slots ls pc i a b j S hd hw g4 hG hS (by omega) (by omega) g3 hl.2.1
  · rw [if_neg hee] at h hw
    obtain ⟨g1, g2, h⟩ := h
    unfold okN at hw
    split at hw
    · rename_i r hr
      simp only [Bool.and_eq_true, decide_eq_true_eq] at hw
      obtain ⟨hbn, hcl⟩ := hw
      subst hbn
      obtain ⟨hf, hz⟩ := frs_of hE hG hS
      have hKn := hE.1.1 a r hr
      refine W.newcK hx hb hown (hts _ (tb_mem hcl)) (hts _ (cl_new hr).1) (hts _ (cl_new hr).2) rfl hd (by omega) (by omega) hKn.2.1 rfl fun H1 kC hkC e1 z1 o1 => ?_
      refine h H.size hf p e R s m args below meth c Q H1 locs (cells + 1) (slots + r.2.2) ls hF hR hT hN (hG.add hz ?_ o1) (hS.grow z1 o1) (by omega) (by omega) hl
      refine ⟨_, hr, (u_born (fty a) hts (cl_in hr) hKn hkC e1 (cl_ty hr).1).to fun q hq => ?_⟩
      have hN9 := (cl_ty hr).2.2
      simp only [vp_V, dfl]
      rw [List.getD_eq_getElem?_getD, List.getElem?_map, List.getElem?_range (by omega)]
      rfl
    · cases hw
theorem sn_newarray {t : ArrayType} : SI x D B0 l (.newarray t, n, a, b, j, ee) k pc L S w mc ms post := by
  intro hd hw h
  obtain rfl : n = 2 := of_decide_eq_true hw
  obtain ⟨v, S, rfl, hv0, hv1, hm1, hm2, h⟩ := qs1_e h
  intro p e R s m args below meth c Q H locs cells slots ls hF hR hT hN hG hS h1 h2 hl
  obtain ⟨hx, hb, hml, hown, hts, hlk, hnm, htb, hE, hfr, hlo, htr⟩ := id hF
  obtain ⟨hf, hz⟩ := frs_of hE hG hS
  have h := h H.size hf
  cases t <;> first | exact h.elim | skip
  · refine va_newaK (atype := .int) hx hb (hts _ arW) rfl hd rfl hv0 rfl (by show _ * 4 ≤ _; omega) (by omega) (by omega) rfl fun H1 cA e1 z1 o1 _ hNm => ?_
    obtain rfl : cA = x.1.1 := Option.some.inj (hNm.symm.trans (hE.1.2 0 _ rfl).2)
    exact h p e R s m args below meth c Q H1 locs (cells + 1) (slots + v.toNatClampNeg) ls hF hR hT hN (hG.add hz (by show H1[H.size]? = some (vp_cell _ _); rw [e1]; rfl) o1) (hS.grow z1 o1) (by omega) (by omega) hl
theorem sn_anewarray {i : Nat} : SI x D B0 l (.anewarray i, n, a, b, j, ee) k pc L S w mc ms post := by
  intro hd hw0 h0
  have hw : (decide (n = 3) && tb j (.classLink (mY k).cls i "java/lang/Object")) = true := hw0
  simp only [Bool.and_eq_true, decide_eq_true_eq] at hw
  obtain ⟨rfl, hw⟩ := hw
  obtain ⟨v, S, rfl, hv0, hv1, hm1, hm2, h⟩ := qs1_e h0
  intro p e R s m args below meth c Q H locs cells slots ls hF hR hT hN hG hS h1 h2 hl
  obtain ⟨hx, hb, hml, hown, hts, hlk, hnm, htb, hE, hfr, hlo, htr⟩ := id hF
  obtain ⟨hf, hz⟩ := frs_of hE hG hS
  have h := h H.size hf
  refine W.anew hx hb hown (hts _ (tb_mem hw)) (va_AO.use hE.2.2.2.1) rfl hd rfl hv0 (by omega) (by omega) (by omega) fun cA kA comp f1 f2 f3 f4 => ?_
  generalize hH1 : H.push ({ cls := cA, slots := Array.replicate v.toNatClampNeg .null, vm := .none } : Cell) = H1
  have z1 : H1.size = H.size + 1 := by rw [← hH1, Array.size_push]
  have e1 : H1[H.size]? = some (arrV cA v.toNatClampNeg (fun _ => .null)) := by rw [← hH1, Array.getElem?_push_size, ← arrV_new]
  have o1 : ∀ q : Nat, q < H.size → H1[q]? = H[q]? := fun q hq => by rw [← hH1, Array.getElem?_push, if_neg (Nat.ne_of_lt hq)]
  obtain ⟨-, -, -, -, -, q5⟩ := (hE.1.2 3 _ rfl).2
  obtain rfl : cA = x.1.2.2.2 := Option.some.inj (f1.symm.trans q5)
  exact h p e R s m args below meth c Q H1 locs (cells + 1) (slots + v.toNatClampNeg) ls hF hR hT hN (hG.add hz (by show H1[H.size]? = some (vp_cell _ _); rw [e1]; rfl) o1) (hS.grow z1 o1) (by omega) (by omega) hl
theorem sn_return : SI x D B0 l (.return_, n, a, b, j, ee) k pc L S w mc ms post := by
  intro hd hw h
  obtain rfl : n = 1 := of_decide_eq_true hw
  obtain ⟨rfl, hmr, hp⟩ := qsn_e h
  intro p e R s m args below meth c Q H locs cells slots ls hF hR hT hN hG hS h1 h2 hl
  exact hR w H locs cells slots ls pc none (Or.inl ⟨hd, rfl, hmr⟩) hp hG hS (by omega) (by omega)
theorem sn_ireturn : SI x D B0 l (.ireturn, n, a, b, j, ee) k pc L S w mc ms post := by
  intro hd hw h
  obtain rfl : n = 1 := of_decide_eq_true hw
  obtain ⟨v, S, rfl, h⟩ := qs1_e h
  obtain ⟨rfl, h⟩ := qsn_e h
  obtain ⟨hmr, hp⟩ := qrt_e h
  intro p e R s m args below meth c Q H locs cells slots ls hF hR hT hN hG hS h1 h2 hl
  exact hR w H locs cells slots ls pc (some (.int v)) (Or.inr (Or.inl ⟨v, hd, rfl, hmr⟩)) hp hG hS (by omega) (by omega)
theorem sn_areturn : SI x D B0 l (.areturn, n, a, b, j, ee) k pc L S w mc ms post := by
  intro hd hw0 h0
  have hw : (decide (n = 1) && (match mR k with | some (.object _) => true | some (.array _) => true | _ => false)) = true := hw0
  simp only [Bool.and_eq_true, decide_eq_true_eq] at hw
  obtain ⟨rfl, hw⟩ := hw
  have h : qsv S fun v S => qsn S (v.isRef = true ∧ post (.inl (some v)) w) := h0
  obtain ⟨v, S, rfl, -, hv3, h⟩ := qsv_e h
  obtain ⟨rfl, hir, hp⟩ := qsn_e h
  intro p e R s m args below meth c Q H locs cells slots ls hF hR hT hN hG hS h1 h2 hl
  refine hR w H locs cells slots ls pc (some v) (Or.inr (Or.inr ⟨v, hd, rfl, ?_, ?_⟩)) hp hG hS (by omega) (by omega)
  · rcases hv3 with ⟨z, rfl⟩ | hv3 | hv3
    · cases hir
    · exact Or.inl hv3
    · exact Or.inr hv3
  · split at hw
    · exact ⟨_, by assumption, Or.inl ⟨_, rfl⟩⟩
    · exact ⟨_, by assumption, Or.inr ⟨_, rfl⟩⟩
    · cases hw
theorem sn_checkcast {i : Nat} : SI x D B0 l (.checkcast i, n, a, b, j, ee) k pc L S w mc ms post := by
  intro hd hw0 h0
  have hw : (decide (n = 3) && okCast k a j i) = true := hw0
  simp only [Bool.and_eq_true, decide_eq_true_eq] at hw
  obtain ⟨rfl, hw⟩ := hw
  obtain ⟨o, S, rfl, hk, h⟩ := qsr_e h0
  obtain ⟨fs, hwo⟩ := qwK_e hk
  intro p e R s m args below meth c Q H locs cells slots ls hF hR hT hN hG hS h1 h2 hl
  obtain ⟨hx, hb, hml, hown, hts, hlk, hnm, htb, hE, hfr, hlo, htr⟩ := id hF
  unfold okCast at hw
  split at hw
  · rename_i r hr
    obtain ⟨r', g1, cell, q1, q2, q3, q4⟩ := (hG _ _ hwo).1
    cases Option.some.inj (g1.symm.trans hr)
    exact va_castS hx hb hown (hts _ (tb_mem hw)) (hE.1.1 a r hr).2 ⟨cell, q1, by rw [q3]; rfl, by rw [q2]; exact (hE.1.1 a r hr).2.1⟩ hd (h p e R s m args below meth c Q H locs cells slots ls hF hR hT hN hG hS h1 h2 hl)
  · cases hw
theorem sn_getstatic {i : Nat} : SI x D B0 l (.getstatic i, n, a, b, j, ee) k pc L S w mc ms post := by
  intro hd hw0 h0
  have hw : (decide (n = 3) && tb j (.fieldLink (mY k).cls i "java/util/ArrayList" "DEFAULTCAPACITY_EMPTY_ELEMENTDATA" "[Ljava/lang/Object;")) = true := hw0
  simp only [Bool.and_eq_true, decide_eq_true_eq] at hw
  obtain ⟨rfl, hw⟩ := hw
  intro p e R s m args below meth c Q H locs cells slots ls hF hR hT hN hG hS h1 h2 hl
  obtain ⟨hx, hb, hml, hown, hts, hlk, hnm, htb, hE, hfr, hlo, htr⟩ := id hF
  obtain ⟨-, -, -, -, -, -, -, hZ, -⟩ := hE
  exact va_gets hx hb hZ hS hown (hts _ (tb_mem hw)) (fun _ h9 => h9) hd (h0 p e R s m args below meth c Q H locs cells slots ls hF hR hT hN hG hS h1 h2 hl)
theorem sn_tableswitch {d lo hi : Int} {offs : Array Int} : SI x D B0 l (.tableswitch d lo hi offs, n, a, b, j, ee) k pc L S w mc ms post := by
  intro hd hw0 h0
  have hw : (decide (0 ≤ (pc : Int) + d) && offs.toList.all (fun o => decide (0 ≤ (pc : Int) + o))) = true := hw0
  simp only [Bool.and_eq_true, decide_eq_true_eq] at hw
  obtain ⟨hw1, hw2⟩ := hw
  obtain ⟨v, S, rfl, h⟩ := qs1_e h0
  intro p e R s m args below meth c Q H locs cells slots ls hF hR hT hN hG hS h1 h2 hl
  obtain ⟨hx, hb, hml, hown, hts, hlk, hnm, htb, hE, hfr, hlo, htr⟩ := id hF
  by_cases hv : v.toInt < lo ∨ hi < v.toInt
  · rw [if_pos hv] at h
    exact lv_tableOut (tgt := ((pc : Int) + d).toNat) hx hb hd hv (by omega) (h p e R s m args below meth c Q H locs cells slots ls hF hR hT hN hG hS h1 h2 hl)
  · rw [if_neg hv] at h
    split at h
    · rename_i off hoff
      have h0 := List.all_eq_true.mp hw2 off (by
        have := Array.mem_of_getElem? hoff
        exact Array.mem_toList_iff.mpr this)
      simp only [decide_eq_true_eq] at h0
      exact lv_tableIn (tgt := ((pc : Int) + off).toNat) hx hb hd (fun q => hv (Or.inl q)) (fun q => hv (Or.inr q)) hoff (by omega) (h p e R s m args below meth c Q H locs cells slots ls hF hR hT hN hG hS h1 h2 hl)
    · exact h.elim
end ROWS2
/-! handlers and throws -/
def okHn (k : Nat) : Bool := (mH k).all fun q => decide (Cond.classLink (mY k).cls q.2.2.2 (exN (hxk q.2.2.2)) ∈ lw_tbl) && goodWord (.classLink (mY k).cls q.2.2.2 (exN (hxk q.2.2.2))) && decide (q.2.2.2 ≠ 0)
theorem okHn_r : ((List.range 108).all okHn) = true := by decide +kernel
theorem okHn_all (k : Nat) : okHn k = true := by
  by_cases h : k < 108
  · exact List.all_eq_true.mp okHn_r k (List.mem_range.mpr h)
  · have e : mH k = [] := by
      unfold mH
      rw [List.getD_eq_getElem?_getD, List.getElem?_eq_none (by have : mHL.length = 108 := by decide +kernel
                                                                omega)]
      rfl
    unfold okHn
    rw [e]
    rfl
theorem hxk_123 (c : Nat) : hxk c = 1 ∨ hxk c = 2 ∨ hxk c = 3 := Or.inr (Or.inr rfl)
theorem hnd_split (pc ex h : Nat) : ∀ hh : List (Nat × Nat × Nat × Nat), (hh.filterMap (fun q => if q.1 ≤ pc ∧ pc < q.2.1 then some (hxk q.2.2.2, q.2.2.1) else none)).lookup ex = some h →
    ∃ pre q suf, hh = pre ++ q :: suf ∧ (q.1 ≤ pc ∧ pc < q.2.1) ∧ hxk q.2.2.2 = ex ∧ q.2.2.1 = h ∧ ∀ z ∈ pre, ¬ (z.1 ≤ pc ∧ pc < z.2.1) ∨ hxk z.2.2.2 ≠ ex
  | [], hl => by cases hl
  | q :: hh, hl => by
    by_cases hc : q.1 ≤ pc ∧ pc < q.2.1
    · rw [List.filterMap_cons] at hl
      simp only [if_pos hc, List.lookup_cons] at hl
      by_cases hx : ex = hxk q.2.2.2
      · subst hx
        simp at hl
        exact ⟨[], q, hh, rfl, hc, rfl, hl, fun z hz => by cases hz⟩
      · rw [show (ex == hxk q.2.2.2) = false from beq_false_of_ne hx] at hl
        obtain ⟨pre, q', suf, e1, e2, e3, e4, e5⟩ := hnd_split pc ex h hh hl
        exact ⟨q :: pre, q', suf, by rw [e1]; rfl, e2, e3, e4, fun z hz => by
          rcases List.mem_cons.mp hz with rfl | hz
          · exact Or.inr (fun e => hx e.symm)
          · exact e5 z hz⟩
    · rw [List.filterMap_cons] at hl
      simp only [if_neg hc] at hl
      obtain ⟨pre, q', suf, e1, e2, e3, e4, e5⟩ := hnd_split pc ex h hh hl
      exact ⟨q :: pre, q', suf, by rw [e1]; rfl, e2, e3, e4, fun z hz => by
        rcases List.mem_cons.mp hz with rfl | hz
        · exact Or.inl hc
        · exact e5 z hz⟩
section CALLS
variable {x : Cx} {D : va_G} {B0 : Nat} {l : Launch} {k pc : Nat} {L : Lc} {S : List Value} {w : Wd} {mc ms : Nat} {post : Po} {n a b j ee : Nat}
variable {p : Program} {e : Env} {R : Room} {s : State} {m : MethodId} {args : Array Value} {below : List Frame} {meth : Method} {c : Code} {Q : State → Prop} {H : Heap} {locs : List Loc} {cells slots : Nat} {ls : Array Slot}
/-- thrown out of a call: caught here -/
theorem caught (hF : Fr x D B0 l k p R s m args meth c) {ex h : Nat} (hh : (hnd k pc).lookup ex = some h) {q : Addr} {ce : Cell} (hcell : H[q]? = some ce) (hv : ce.vm = .none) (hcl : s.vm.findClass (exN ex) = some ce.cls) {rest : List Value}
    (kk : W p l e R s m args below meth c H locs cells slots Q (F0 m h ls [.ref q])) : vx_W p l e R s m args below meth c H locs cells slots Q (F0 m pc ls rest) q := by
  obtain ⟨hx, hb, hml, hown, hts, hlk, hnm, htb, hE, hfr, hlo, htr⟩ := id hF
  obtain ⟨pre, z, suf, e1, e2, e3, e4, e5⟩ := hnd_split pc ex h (mH k) hh
  have hne : mH k ≠ [] := by rw [e1]; simp
  have ht := htb hne
  have hok : ∀ y ∈ mH k, Cond.classLink (mY k).cls y.2.2.2 (exN (hxk y.2.2.2)) ∈ Tb ∧ y.2.2.2 ≠ 0 := by
    intro y hy
    have h1 := List.all_eq_true.mp (okHn_all k) y hy
    simp only [Bool.and_eq_true, decide_eq_true_eq] at h1
    exact ⟨List.mem_filter.mpr ⟨h1.1.1, h1.1.2⟩, h1.2⟩
  have hz := hok z (by rw [e1]; simp)
  have hsplit : c.exceptionTable.toList = tableOf pre ++ (⟨z.1, z.2.1, z.2.2.1, z.2.2.2⟩ : ExceptionTableEntry) :: tableOf suf := by rw [ht, e1]; simp [tableOf]
  refine vx_catch (name := exN ex) (E := exN ex) hown (tableOf pre) ⟨z.1, z.2.1, z.2.2.1, z.2.2.2⟩ (tableOf suf) hsplit ?_ (by simp [covers, e2]) hz.2 (by have := hts _ hz.1; rw [e3] at this; exact this) ?_ hcell hv hcl (by show W p l e R s m args below meth c H locs cells slots Q (F0 m z.2.2.1 ls [.ref q]); rw [e4]; exact kk)
  · intro y hy
    obtain ⟨y0, hy0, rfl⟩ := List.mem_map.mp hy
    rcases e5 y0 hy0 with h9 | h9
    · refine Or.inl ?_
      by_cases hc1 : y0.1 ≤ pc
      · have hc2 : ¬ pc < y0.2.1 := fun q => h9 ⟨hc1, q⟩
        simp [covers, hc2]
      · simp [covers, hc1]
    · have hy1 := hok y0 (by rw [e1]; simp [hy0])
      rw [← e3] at h9
      exact absurd rfl h9
  · have h9 : va_Nw (.castable (exN ex) (exN ex)) s := by
      refine hE.2.1 _ (Or.inl ?_)
      rw [← e3]
      rcases hxk_123 z.2.2.2 with q1 | q1 | q1 <;> rw [q1] <;> decide +kernel
    exact va_Nw.use rfl h9
def QcO (D : va_G) (B0 : Nat) (R : Po) : Array Value → State → Outcome → State → Prop := fun _ st o t => ∃ v w', o = .returned v ∧ R (.inl v) w' ∧ GW D B0 w' t.heap ∧ va_F (AA B0) st t
def XcO (D : va_G) (B0 : Nat) (R : Po) : String → State → State → Prop := fun E st t => ∃ ex w', E = exN ex ∧ R (.inr ex) w' ∧ GW D B0 w' t.heap ∧ va_F (AA B0) st t
/-- behind a call that may throw -/
theorem run_on {rest st0 : List Value} {As : Array Value} {Rr : Po} {pc' mc' ms' uc us : Nat} (hr : vx_Run p l e R s m args below meth c H locs cells slots uc us (F0 m pc ls st0) rest (QcO D B0 Rr As) (XcO D B0 Rr) (AA B0)) (hpc : pc' = pc + 3)
    (hK : ∀ r w', Rr r w' → aftF (Snd x D B0 l) k pc pc' L rest mc' ms' post r w') (hF : Fr x D B0 l k p R s m args meth c) (hR : EndR D B0 k p l e R s m args below meth c Q post) (hT : EndT D B0 k p l e R s m args below meth c Q post) (hN : EndN D B0 k p l e R s m args below meth c Q post)
    (hS : va_S (AA B0) s.heap H locs) (h1 : cells + uc + mc' ≤ R.cells) (h2 : slots + us + ms' ≤ R.slots) (hl : lvR ls (mL k) L) : W p l e R s m args below meth c H locs cells slots Q (F0 m pc ls st0) := by
  subst hpc
  intro T hT0 X
  rcases hr T hT0 X with ⟨v, st₀, t, T', Lc, h0, X', hL, e1, e2, ⟨v', w', hv, hp, hg, hFr⟩, st⟩ | ⟨q, st₀, t, T', Lc, E, ce, h0, X', hL, e1, e2, ⟨ex, w', hE, hp, hg, hFr⟩, hce, hcv, hcl, st⟩
  · cases hv
    obtain ⟨k1, k2, k3⟩ := vx_keep h0 e1 hS (fun _ _ h => h) (fun _ h => h) hL hFr
    have hk : Snd x D B0 l k (pc + 3) L (v.toList ++ rest) w' mc' ms' post := hK _ _ hp
    obtain ⟨t2, a1, b1⟩ := hk p e R s m args below meth c Q T'.heap (locs ++ Lc) (cells + uc) (slots + us) ls hF hR hT hN (by rw [e1]; exact hg) k3 (by omega) (by omega) hl T' rfl X'
    exact ⟨t2, st t2 a1, b1⟩
  · subst hE
    obtain ⟨k1, k2, k3⟩ := vx_keep h0 e1 hS (fun _ _ h => h) (fun _ h => h) hL hFr
    have hg' : GW D B0 w' T'.heap := by rw [e1]; exact hg
    have hk := hK _ _ hp
    simp only [aftF] at hk
    have key : vx_W p l e R s m args below meth c T'.heap (locs ++ Lc) (cells + uc) (slots + us) Q (F0 m pc ls rest) q := by
      split at hk
      · rename_i h hh
        exact caught hF hh (by rw [e1]; exact hce) hcv hcl (hk q p e R s m args below meth c Q T'.heap (locs ++ Lc) (cells + uc) (slots + us) ls hF hR hT hN hg' k3 (by omega) (by omega) hl)
      · rename_i hh
        exact hT w' T'.heap (locs ++ Lc) (cells + uc) (slots + us) ls pc rest ex q ce hh hk hg' k3 (by omega) (by omega) (by rw [e1]; exact hce) hcv hcl
    obtain ⟨t2, a1, b1⟩ := key T' rfl X'
    exact ⟨t2, st.trans a1, b1⟩
/-- behind a call that can't throw -/
theorem run_onN {rest st0 : List Value} {As : Array Value} {Rr : Po} {pc' mc' ms' uc us : Nat} (hr : va_Run p l e R s m args below meth c H locs cells slots uc us (F0 m pc ls st0) rest (QcO D B0 Rr As) (AA B0)) (hpc : pc' = pc + 3)
    (hK : ∀ r w', Rr r w' → aftN (Snd x D B0 l) k pc' L rest mc' ms' post r w') (hF : Fr x D B0 l k p R s m args meth c) (hR : EndR D B0 k p l e R s m args below meth c Q post) (hT : EndT D B0 k p l e R s m args below meth c Q post) (hN : EndN D B0 k p l e R s m args below meth c Q post)
    (hS : va_S (AA B0) s.heap H locs) (h1 : cells + uc + mc' ≤ R.cells) (h2 : slots + us + ms' ≤ R.slots) (hl : lvR ls (mL k) L) : W p l e R s m args below meth c H locs cells slots Q (F0 m pc ls st0) := by
  subst hpc
  intro T hT0 X
  obtain ⟨v, st₀, t, T', Lc, h0, X', hL, e1, e2, ⟨v', w', hv, hp, hg, hFr⟩, st⟩ := hr T hT0 X
  cases hv
  obtain ⟨k1, k2, k3⟩ := vx_keep h0 e1 hS (fun _ _ h => h) (fun _ h => h) hL hFr
  have hk : Snd x D B0 l k (pc + 3) L (v.toList ++ rest) w' mc' ms' post := hK _ _ hp
  obtain ⟨t2, a1, b1⟩ := hk p e R s m args below meth c Q T'.heap (locs ++ Lc) (cells + uc) (slots + us) ls hF hR hT hN (by rw [e1]; exact hg) k3 (by omega) (by omega) hl T' rfl X'
  exact ⟨t2, st t2 a1, b1⟩
end CALLS
