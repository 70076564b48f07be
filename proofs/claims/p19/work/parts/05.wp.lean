section
variable {x : Cx} {F G : FT} {post post' : Po}
theorem CLF_m (hC : ∀ k L S w mc ms R, F k 0 L S w mc ms R → G k 0 L S w mc ms R) {k : Nat} {args : List Value} {w : Wd} {K K' : Po} (hK : ∀ r w', K r w' → K' r w') : CLF F k args w K → CLF G k args w K' := by
  rintro ⟨h0, R, h1, h2⟩
  exact ⟨h0, R, hC _ _ _ _ _ _ _ h1, fun r w' h => hK r w' (h2 r w' h)⟩
theorem aftF_m (hF : ∀ m pc L S w mc ms, F m pc L S w mc ms post → G m pc L S w mc ms post') (hp : ∀ r w, post r w → post' r w) {m pc pc' : Nat} {L : Lc} {S : List Value} {mc ms : Nat} : ∀ r w', aftF F m pc pc' L S mc ms post r w' → aftF G m pc pc' L S mc ms post' r w' := by
  intro r w'
  cases r with
  | inl v => exact hF _ _ _ _ _ _ _
  | inr e =>
    simp only [aftF]
    split
    · exact qal_m fun q => hF _ _ _ _ _ _ _
    · exact hp _ _
theorem aftN_m (hF : ∀ m pc L S w mc ms, F m pc L S w mc ms post → G m pc L S w mc ms post') {m pc' : Nat} {L : Lc} {S : List Value} {mc ms : Nat} : ∀ r w', aftN F m pc' L S mc ms post r w' → aftN G m pc' L S mc ms post' r w' := by
  intro r w'
  cases r with
  | inl v => exact hF _ _ _ _ _ _ _
  | inr e => exact id
set_option maxHeartbeats 4000000 in
theorem stepI_m (hF : ∀ m pc L S w mc ms, F m pc L S w mc ms post → G m pc L S w mc ms post') (hC : ∀ k L S w mc ms R, F k 0 L S w mc ms R → G k 0 L S w mc ms R) (hp : ∀ r w, post r w → post' r w)
    {ai : AI} {m pc : Nat} {L : Lc} {S : List Value} {w : Wd} {mc ms : Nat} : stepI x ai F m pc L S w mc ms post → stepI x ai G m pc L S w mc ms post' := by
  unfold stepI
  split <;>
  repeat' (first
    | exact id
    | exact hF _ _ _ _ _ _ _
    | exact hp _ _
    | exact CLF_m hC (aftF_m hF hp)
    | exact CLF_m hC (aftN_m hF)
    | refine qs1_m fun _ _ => ?_
    | refine qs2_m fun _ _ _ => ?_
    | refine qsr_m fun _ _ => ?_
    | refine qsv_m fun _ _ => ?_
    | refine qsir_m fun _ _ _ => ?_
    | refine qsiir_m fun _ _ _ _ => ?_
    | refine qslir_m fun _ _ _ _ => ?_
    | refine qsrir_m fun _ _ _ _ => ?_
    | refine qsvr_m fun _ _ _ => ?_
    | refine qsrr_m fun _ _ _ => ?_
    | refine qsll_m fun _ _ _ => ?_
    | refine qsn_m ?_
    | refine qlI_m fun _ => ?_
    | refine qlA_m fun _ => ?_
    | refine qwO_m fun _ => ?_
    | refine qwV_m fun _ => ?_
    | refine qwI_m fun _ _ => ?_
    | refine qwL_m fun _ _ => ?_
    | refine qwJ_m fun _ _ => ?_
    | refine qwQ_m fun _ _ => ?_
    | refine qwA_m fun _ => ?_
    | refine qty_m ?_
    | refine qrt_m ?_
    | refine qtk_m (fun _ _ => ?_) _ _ _
    | refine And.imp_right ?_
    | refine qif_m ?_ ?_
    | refine qal_m fun _ => ?_
    | refine qim_m ?_
    | split)
theorem stepP_m (hF : ∀ m pc L S w mc ms, F m pc L S w mc ms post → G m pc L S w mc ms post') (hC : ∀ k L S w mc ms R, F k 0 L S w mc ms R → G k 0 L S w mc ms R) (hp : ∀ r w, post r w → post' r w)
    {m pc : Nat} {L : Lc} {S : List Value} {w : Wd} {mc ms : Nat} : stepP x F m pc L S w mc ms post → stepP x G m pc L S w mc ms post' := by
  unfold stepP
  split
  · exact id
  · exact stepI_m hF hC hp
end
/-- what a run from here comes to: the least such word -/
def WP (x : Cx) : FT := fun m pc L S w mc ms post => ∀ F : FT, (∀ m pc L S w mc ms post, stepP x F m pc L S w mc ms post → F m pc L S w mc ms post) → F m pc L S w mc ms post
theorem WP_fold {x : Cx} {m pc : Nat} {L : Lc} {S : List Value} {w : Wd} {mc ms : Nat} {post : Po} (h : stepP x (WP x) m pc L S w mc ms post) : WP x m pc L S w mc ms post := by
  intro F hF
  exact hF _ _ _ _ _ _ _ _ (stepP_m (fun _ _ _ _ _ _ _ h => h F hF) (fun _ _ _ _ _ _ _ h => h F hF) (fun _ _ h => h) h)
theorem WP_unf (x : Cx) (m pc : Nat) (L : Lc) (S : List Value) (w : Wd) (mc ms : Nat) (post : Po) : WP x m pc L S w mc ms post = stepP x (WP x) m pc L S w mc ms post :=
  propext ⟨fun h => h (fun m pc L S w mc ms post => stepP x (WP x) m pc L S w mc ms post) (fun _ _ _ _ _ _ _ _ h => stepP_m (fun _ _ _ _ _ _ _ h => WP_fold h) (fun _ _ _ _ _ _ _ h => WP_fold h) (fun _ _ h => h) h), WP_fold⟩
theorem WP_go {x : Cx} {m pc : Nat} {ai : AI} (hc : cdAt m pc = some ai) {L : Lc} {S : List Value} {w : Wd} {mc ms : Nat} {post : Po} : WP x m pc L S w mc ms post = stepI x ai (WP x) m pc L S w mc ms post := by
  rw [WP_unf, stepP, hc]
/-- a weaker end -/
theorem WP_mono {x : Cx} {m pc : Nat} {L : Lc} {S : List Value} {w : Wd} {mc ms : Nat} {post post' : Po} (h : WP x m pc L S w mc ms post) (hp : ∀ r w, post r w → post' r w) : WP x m pc L S w mc ms post' := by
  refine h (fun m pc L S w mc ms post => ∀ post' : Po, (∀ r w, post r w → post' r w) → WP x m pc L S w mc ms post') ?_ post' hp
  intro m pc L S w mc ms post h post' hp
  exact WP_fold (stepP_m (fun _ _ _ _ _ _ _ h => h _ hp) (fun _ _ _ _ _ _ _ h => h _ (fun _ _ z => z)) hp h)
/-- a call of the method k -/
def CL (x : Cx) (k : Nat) (args : List Value) (w : Wd) (K : Po) : Prop := WP x k 0 (args.map some ++ List.replicate (mL k - args.length) none) [] w (mMC k) (mMS k) K
abbrev aft (x : Cx) : Nat → Nat → Nat → Lc → List Value → Nat → Nat → Po → Po := aftF (WP x)
theorem CLF_eq {x : Cx} {k : Nat} {args : List Value} {w : Wd} {K : Po} (h0 : args.all cat1 = true ∧ args.length ≤ mL k) : CLF (WP x) k args w K = CL x k args w K := propext ⟨fun ⟨_, _, h1, h2⟩ => WP_mono h1 h2, fun h => ⟨h0, K, h, fun _ _ z => z⟩⟩
theorem CL_mono {x : Cx} {k : Nat} {args : List Value} {w : Wd} {K K' : Po} (h : CL x k args w K) (hp : ∀ r w, K r w → K' r w) : CL x k args w K' := WP_mono h hp
theorem aft_v {x : Cx} {m pc pc' : Nat} {L : Lc} {S : List Value} {mc ms : Nat} {post : Po} {v : Value} {w : Wd} : aftF (WP x) m pc pc' L S mc ms post (.inl (some v)) w = WP x m pc' L (v :: S) w mc ms post := rfl
theorem aft_n {x : Cx} {m pc pc' : Nat} {L : Lc} {S : List Value} {mc ms : Nat} {post : Po} {w : Wd} : aftF (WP x) m pc pc' L S mc ms post (.inl none) w = WP x m pc' L S w mc ms post := rfl
theorem aftN_v {x : Cx} {m pc' : Nat} {L : Lc} {S : List Value} {mc ms : Nat} {post : Po} {v : Value} {w : Wd} : aftN (WP x) m pc' L S mc ms post (.inl (some v)) w = WP x m pc' L (v :: S) w mc ms post := rfl
theorem aftN_n {x : Cx} {m pc' : Nat} {L : Lc} {S : List Value} {mc ms : Nat} {post : Po} {w : Wd} : aftN (WP x) m pc' L S mc ms post (.inl none) w = WP x m pc' L S w mc ms post := rfl
theorem aft_x {x : Cx} {m pc pc' : Nat} {L : Lc} {S : List Value} {mc ms : Nat} {post : Po} {e : Nat} {w : Wd} (h : mH m = []) : aftF (WP x) m pc pc' L S mc ms post (.inr e) w = post (.inr e) w := by
  simp [aftF, hnd, h]
/-- a call without makings -/
theorem tc0 {x : Cx} {k : Nat} {args : List Value} {w : Wd} {m pc pc' : Nat} {L : Lc} {S : List Value} {mc ms : Nat} {post : Po} (h0 : S.length ≤ 4) (ha : args.all cat1 = true ∧ args.length ≤ mL k) (h1 : mMC k = 0) (h2 : mMS k = 0) :
    (S.length ≤ 4 ∧ mMC k ≤ mc ∧ mMS k ≤ ms ∧ CLF (WP x) k args w (aftF (WP x) m pc pc' L S (mc - mMC k) (ms - mMS k) post)) = CL x k args w (aftF (WP x) m pc pc' L S mc ms post) := by
  rw [h1, h2, CLF_eq ha]
  simp [h0]
theorem tc1 {x : Cx} {k : Nat} {args : List Value} {w : Wd} {m pc pc' : Nat} {L : Lc} {S : List Value} {mc ms : Nat} {post : Po} (h0 : S.length ≤ 4) (ha : args.all cat1 = true ∧ args.length ≤ mL k) {a b : Nat} (h1 : mMC k = a) (h2 : mMS k = b) :
    (S.length ≤ 4 ∧ mMC k ≤ mc ∧ mMS k ≤ ms ∧ CLF (WP x) k args w (aftF (WP x) m pc pc' L S (mc - mMC k) (ms - mMS k) post)) = (a ≤ mc ∧ b ≤ ms ∧ CL x k args w (aftF (WP x) m pc pc' L S (mc - a) (ms - b) post)) := by
  rw [h1, h2, CLF_eq ha]
  simp [h0]
theorem tcN0 {x : Cx} {k : Nat} {args : List Value} {w : Wd} {m pc' : Nat} {L : Lc} {S : List Value} {mc ms : Nat} {post : Po} (h0 : S.length ≤ 4) (ha : args.all cat1 = true ∧ args.length ≤ mL k) (h1 : mMC k = 0) (h2 : mMS k = 0) :
    (S.length ≤ 4 ∧ mMC k ≤ mc ∧ mMS k ≤ ms ∧ CLF (WP x) k args w (aftN (WP x) m pc' L S (mc - mMC k) (ms - mMS k) post)) = CL x k args w (aftN (WP x) m pc' L S mc ms post) := by
  rw [h1, h2, CLF_eq ha]
  simp [h0]
theorem tcN1 {x : Cx} {k : Nat} {args : List Value} {w : Wd} {m pc' : Nat} {L : Lc} {S : List Value} {mc ms : Nat} {post : Po} (h0 : S.length ≤ 4) (ha : args.all cat1 = true ∧ args.length ≤ mL k) {a b : Nat} (h1 : mMC k = a) (h2 : mMS k = b) :
    (S.length ≤ 4 ∧ mMC k ≤ mc ∧ mMS k ≤ ms ∧ CLF (WP x) k args w (aftN (WP x) m pc' L S (mc - mMC k) (ms - mMS k) post)) = (a ≤ mc ∧ b ≤ ms ∧ CL x k args w (aftN (WP x) m pc' L S (mc - a) (ms - b) post)) := by
  rw [h1, h2, CLF_eq ha]
  simp [h0]
