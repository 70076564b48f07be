/-! A small machine over worlds: what the methods' code does to locals, stack and the cells that are known. -/
abbrev Wd : Type := Nat → Option va_E
abbrev Lc : Type := List (Option Value)
abbrev Rt : Type := Option Value ⊕ Nat
abbrev Po : Type := Rt → Wd → Prop
abbrev Cx : Type := (ClassId × ClassId × ClassId × ClassId) × (Nat × Nat × Nat × (Nat → Int32))
abbrev FT : Type := Nat → Nat → Lc → List Value → Wd → Nat → Nat → Po → Prop
/-- the array types' numbers: ints, booleans, longs, objects -/
def aK (x : Cx) (k : Nat) : ClassId := match k with
  | 0 => x.1.1
  | 1 => x.1.2.1
  | 2 => x.1.2.2.1
  | _ => x.1.2.2.2
abbrev xE (x : Cx) : Nat := x.2.1
abbrev xB (x : Cx) : Nat := x.2.2.1
abbrev xN (x : Cx) : Nat := x.2.2.2.1
abbrev xS (x : Cx) : Nat → Int32 := x.2.2.2.2
abbrev eI (x : Cx) (n : Nat) (f : Nat → Int32) : va_E := .inl (x.1.1, n, .inl f)
abbrev eZ (x : Cx) (n : Nat) (f : Nat → Int32) : va_E := .inl (x.1.2.1, n, .inl f)
abbrev eJ (x : Cx) (n : Nat) (f : Nat → Int64) : va_E := .inl (x.1.2.2.1, n, .inr (.inl f))
abbrev eQ (x : Cx) (n : Nat) (f : Nat → Option Nat) : va_E := .inl (x.1.2.2.2, n, .inr (.inr (.inr (.inr f))))
abbrev eO (ci : Nat) (fs : List Value) : va_E := .inr (ci, fs)
def qs1 (S : List Value) (K : Int32 → List Value → Prop) : Prop := match S with
  | .int a :: S => K a S
  | _ => False
def qs2 (S : List Value) (K : Int32 → Int32 → List Value → Prop) : Prop := match S with
  | .int b :: .int a :: S => K a b S
  | _ => False
def qsr (S : List Value) (K : Nat → List Value → Prop) : Prop := match S with
  | .ref a :: S => K a S
  | _ => False
def qsv (S : List Value) (K : Value → List Value → Prop) : Prop := match S with
  | .int a :: S => K (.int a) S
  | .ref a :: S => K (.ref a) S
  | .null :: S => K .null S
  | _ => False
def qsir (S : List Value) (K : Int32 → Nat → List Value → Prop) : Prop := match S with
  | .int i :: .ref o :: S => K i o S
  | _ => False
def qsiir (S : List Value) (K : Int32 → Int32 → Nat → List Value → Prop) : Prop := match S with
  | .int v :: .int i :: .ref o :: S => K v i o S
  | _ => False
def qslir (S : List Value) (K : Int64 → Int32 → Nat → List Value → Prop) : Prop := match S with
  | .long v :: .int i :: .ref o :: S => K v i o S
  | _ => False
def qsrir (S : List Value) (K : Nat → Int32 → Nat → List Value → Prop) : Prop := match S with
  | .ref v :: .int i :: .ref o :: S => K v i o S
  | _ => False
def qsvr (S : List Value) (K : Value → Nat → List Value → Prop) : Prop := match S with
  | v :: .ref o :: S => K v o S
  | _ => False
def qsrr (S : List Value) (K : Nat → Nat → List Value → Prop) : Prop := match S with
  | .ref b :: .ref a :: S => K a b S
  | _ => False
def qsll (S : List Value) (K : Int64 → Int64 → List Value → Prop) : Prop := match S with
  | .long b :: .long a :: S => K a b S
  | _ => False
def qsn (S : List Value) (P : Prop) : Prop := match S with
  | [] => P
  | _ => False
def qlI (L : Lc) (i : Nat) (K : Int32 → Prop) : Prop := match L[i]? with
  | some (some (.int x)) => K x
  | _ => False
def qlA (L : Lc) (i : Nat) (K : Value → Prop) : Prop := match L[i]? with
  | some (some (.ref a)) => K (.ref a)
  | some (some .null) => K .null
  | _ => False
/-- an object of the class ci -/
def qwO (e : Option va_E) (ci : Nat) (K : List Value → Prop) : Prop := match e with
  | some (.inr (c, fs)) => c = ci ∧ K fs
  | _ => False
def qwK (e : Option va_E) (ci : Nat) : Prop := match e with
  | some (.inr (c, _)) => c = ci
  | _ => False
def qwV (fs : List Value) (k : Nat) (K : Value → Prop) : Prop := match fs[k]? with
  | some v => K v
  | none => False
def qwI (e : Option va_E) (c : ClassId) (K : Nat → (Nat → Int32) → Prop) : Prop := match e with
  | some (.inl (c', n, .inl f)) => c' = c ∧ K n f
  | _ => False
/-- a row of ints, or the script -/
def qwL (x : Cx) (e : Option va_E) (o : Nat) (K : Nat → (Nat → Int32) → Prop) : Prop := match e with
  | none => o = xB x ∧ K (xN x) (xS x)
  | some (.inl (c', n, .inl f)) => c' = aK x 0 ∧ K n f
  | _ => False
def qwJ (e : Option va_E) (c : ClassId) (K : Nat → (Nat → Int64) → Prop) : Prop := match e with
  | some (.inl (c', n, .inr (.inl f))) => c' = c ∧ K n f
  | _ => False
def qwQ (e : Option va_E) (c : ClassId) (K : Nat → (Nat → Option Nat) → Prop) : Prop := match e with
  | some (.inl (c', n, .inr (.inr (.inr (.inr f))))) => c' = c ∧ K n f
  | _ => False
def qwA (x : Cx) (e : Option va_E) (o : Nat) (K : Nat → Prop) : Prop := match e with
  | none => if o = xE x then K 0 else (o = xB x ∧ K (xN x))
  | some (.inl (c, n, .inl _)) => c = aK x 0 ∧ K n
  | some (.inl (c, n, .inr (.inr (.inr (.inr _))))) => c = aK x 3 ∧ K n
  | _ => False
def qty (ty : FieldType) (v : Value) (P : Prop) : Prop := match ty, v with
  | .int, .int _ => P
  | .boolean, .int y => (y = 0 ∨ y = 1) ∧ P
  | .object _, .ref _ => P
  | .object _, .null => P
  | .array _, .ref _ => P
  | .array _, .null => P
  | _, _ => False
def qrt (r : Option FieldType) (v : Int32) (P : Prop) : Prop := match r with
  | some .int => P
  | some .boolean => (v = 0 ∨ v = 1) ∧ P
  | _ => False
def qtk : Nat → List Value → List Value → (List Value → List Value → Prop) → Prop
  | 0, S, acc, K => K acc S
  | n + 1, v :: S, acc, K => qtk n S (v :: acc) K
  | _ + 1, [], _, _ => False
def fty (ci k : Nat) : FieldType := match ci with
  | 0 => tyJx4a65c k
  | 1 => tyX0 k
  | 2 => tyX1 k
  | 3 => tyX2 k
  | 4 => tyX3 k
  | 5 => tyX4 k
  | 6 => tyX5 k
  | _ => tyX6 k
def fN (ci : Nat) : Nat := match ci with
  | 0 => 3
  | 1 => 4
  | 2 => 1
  | 3 => 3
  | 4 => 4
  | 5 => 1
  | 6 => 9
  | _ => 5
def dfl (ci : Nat) : List Value := (List.range (fN ci)).map (fun k => defaultValue (fty ci k))
/-- the kind of a caught class: by its number in the law's pool -/
def hxk (_ : Nat) : Nat := 3
def hnd (m pc : Nat) : List (Nat × Nat) := (mH m).filterMap (fun q => if q.1 ≤ pc ∧ pc < q.2.1 then some (hxk q.2.2.2, q.2.2.1) else none)
def cat1 : Value → Bool
  | .int _ => true
  | .ref _ => true
  | .null => true
  | _ => false
def CLF (F : FT) (k : Nat) (args : List Value) (w : Wd) (K : Po) : Prop :=
  (args.all cat1 = true ∧ args.length ≤ mL k) ∧ ∃ R : Po, F k 0 (args.map some ++ List.replicate (mL k - args.length) none) [] w (mMC k) (mMS k) R ∧ ∀ r w', R r w' → K r w'
def aftF (F : FT) (m pc pc' : Nat) (L : Lc) (S : List Value) (mc ms : Nat) (post : Po) : Po := fun r w' => match r with
  | .inl v => F m pc' L (v.toList ++ S) w' mc ms post
  | .inr e => match (hnd m pc).lookup e with
    | some h => ∀ q : Nat, F m h L [.ref q] w' mc ms post
    | none => post (.inr e) w'
/-- behind a call that can't throw -/
def aftN (F : FT) (m pc' : Nat) (L : Lc) (S : List Value) (mc ms : Nat) (post : Po) : Po := fun r w' => match r with
  | .inl v => F m pc' L (v.toList ++ S) w' mc ms post
  | .inr _ => False
def rcv (w : Wd) (args : List Value) (ci : Nat) : Prop := match args with
  | .ref o :: _ => qwK (w o) ci
  | _ => False
def rcI (args : List Value) : Prop := match args with
  | .ref _ :: _ => True
  | _ => False
def frs (x : Cx) (w : Wd) (o : Nat) : Prop := w o = none ∧ o ≠ xE x ∧ o ≠ xB x
def stepI (x : Cx) (ai : AI) (F : FT) (m pc : Nat) (L : Lc) (S : List Value) (w : Wd) (mc ms : Nat) (post : Po) : Prop :=
  match ai.1 with
  | .iconst n => F m (pc + 1) L (.int (Int32.ofInt n) :: S) w mc ms post
  | .bipush n => F m (pc + 2) L (.int ((Int8.ofInt n).toInt32) :: S) w mc ms post
  | .sipush n => F m (pc + 3) L (.int ((Int16.ofInt n).toInt32) :: S) w mc ms post
  | .aconst_null => F m (pc + 1) L (.null :: S) w mc ms post
  | .ldc _ => F m (pc + 2) L (.int (nI ai.2.2.1) :: S) w mc ms post
  | .ldc_w _ => F m (pc + 3) L (.int (nI ai.2.2.1) :: S) w mc ms post
  | .iload_n k => qlI L k fun v => F m (pc + 1) L (.int v :: S) w mc ms post
  | .iload k => qlI L k fun v => F m (pc + 2) L (.int v :: S) w mc ms post
  | .aload_n k => qlA L k fun v => F m (pc + 1) L (v :: S) w mc ms post
  | .aload k => qlA L k fun v => F m (pc + 2) L (v :: S) w mc ms post
  | .istore_n k => qs1 S fun v S => (k : Nat) < L.length ∧ F m (pc + 1) (L.set k (some (.int v))) S w mc ms post
  | .istore k => qs1 S fun v S => k < L.length ∧ F m (pc + 2) (L.set k (some (.int v))) S w mc ms post
  | .astore_n k => qsr S fun v S => (k : Nat) < L.length ∧ F m (pc + 1) (L.set k (some (.ref v))) S w mc ms post
  | .astore k => qsr S fun v S => k < L.length ∧ F m (pc + 2) (L.set k (some (.ref v))) S w mc ms post
  | .iinc k n => qlI L k fun v => k < L.length ∧ F m (pc + 3) (L.set k (some (.int (v + Int32.ofInt n)))) S w mc ms post
  | .iadd => qs2 S fun a b S => F m (pc + 1) L (.int (a + b) :: S) w mc ms post
  | .isub => qs2 S fun a b S => F m (pc + 1) L (.int (a - b) :: S) w mc ms post
  | .imul => qs2 S fun a b S => F m (pc + 1) L (.int (a * b) :: S) w mc ms post
  | .idiv => qs2 S fun a b S => (¬ b = 0) ∧ F m (pc + 1) L (.int (a / b) :: S) w mc ms post
  | .irem => qs2 S fun a b S => (¬ b = 0) ∧ F m (pc + 1) L (.int (a - a / b * b) :: S) w mc ms post
  | .ineg => qs1 S fun a S => F m (pc + 1) L (.int (-a) :: S) w mc ms post
  | .iand => qs2 S fun a b S => F m (pc + 1) L (.int (a &&& b) :: S) w mc ms post
  | .ixor => qs2 S fun a b S => F m (pc + 1) L (.int (a ^^^ b) :: S) w mc ms post
  | .ishl => qs2 S fun a b S => F m (pc + 1) L (.int (a <<< (b &&& 31)) :: S) w mc ms post
  | .ishr => qs2 S fun a b S => F m (pc + 1) L (.int (a >>> (b &&& 31)) :: S) w mc ms post
  | .iushr => qs2 S fun a b S => F m (pc + 1) L (.int ((a.toUInt32 >>> (b.toUInt32 &&& Int32.toUInt32 31)).toInt32) :: S) w mc ms post
  | .dup => qsv S fun v S => F m (pc + 1) L (v :: v :: S) w mc ms post
  | .pop => qsv S fun _ S => F m (pc + 1) L S w mc ms post
  | .dup_x1 => qsv S fun v S => qsv S fun u S => F m (pc + 1) L (v :: u :: v :: S) w mc ms post
  | .dup2 => qsv S fun v S => qsv S fun u S => F m (pc + 1) L (v :: u :: v :: u :: S) w mc ms post
  | .goto _ => F m ai.2.2.1 L S w mc ms post
  | .ifCond c _ => qs1 S fun a S => match c with
    | .eq => if a = 0 then F m ai.2.2.1 L S w mc ms post else F m (pc + 3) L S w mc ms post
    | .ne => if a = 0 then F m (pc + 3) L S w mc ms post else F m ai.2.2.1 L S w mc ms post
    | .lt => if a < 0 then F m ai.2.2.1 L S w mc ms post else F m (pc + 3) L S w mc ms post
    | .ge => if 0 ≤ a then F m ai.2.2.1 L S w mc ms post else F m (pc + 3) L S w mc ms post
    | .gt => if 0 < a then F m ai.2.2.1 L S w mc ms post else F m (pc + 3) L S w mc ms post
    | .le => if a ≤ 0 then F m ai.2.2.1 L S w mc ms post else F m (pc + 3) L S w mc ms post
  | .if_icmp c _ => qs2 S fun a b S => match c with
    | .eq => if a = b then F m ai.2.2.1 L S w mc ms post else F m (pc + 3) L S w mc ms post
    | .ne => if a = b then F m (pc + 3) L S w mc ms post else F m ai.2.2.1 L S w mc ms post
    | .lt => if a < b then F m ai.2.2.1 L S w mc ms post else F m (pc + 3) L S w mc ms post
    | .ge => if b ≤ a then F m ai.2.2.1 L S w mc ms post else F m (pc + 3) L S w mc ms post
    | .gt => if b < a then F m ai.2.2.1 L S w mc ms post else F m (pc + 3) L S w mc ms post
    | .le => if a ≤ b then F m ai.2.2.1 L S w mc ms post else F m (pc + 3) L S w mc ms post
  | .if_acmp c _ => qsrr S fun a b S => match c with
    | .eq => if a = b then F m ai.2.2.1 L S w mc ms post else F m (pc + 3) L S w mc ms post
    | .ne => if a = b then F m (pc + 3) L S w mc ms post else F m ai.2.2.1 L S w mc ms post
  | .getfield _ => qsr S fun o S => qwO (w o) ai.2.2.1 fun fs => qwV fs ai.2.2.2.1 fun v => F m (pc + 3) L (v :: S) w mc ms post
  | .putfield _ => qsvr S fun v o S => qwO (w o) ai.2.2.1 fun fs => ai.2.2.2.1 < fs.length ∧ qty (fty ai.2.2.1 ai.2.2.2.1) v (F m (pc + 3) L S (va_up w o (some (eO ai.2.2.1 (fs.set ai.2.2.2.1 v)))) mc ms post)
  | .iaload => qsir S fun i o S => qwL x (w o) o fun n f => vp_in i n ∧ F m (pc + 1) L (.int (f i.toNatClampNeg) :: S) w mc ms post
  | .aaload => qsir S fun i o S => qwQ (w o) (aK x 3) fun n f => vp_in i n ∧ F m (pc + 1) L (va_rf (f i.toNatClampNeg) :: S) w mc ms post
  | .iastore => qsiir S fun v i o S => qwI (w o) (aK x 0) fun n f => vp_in i n ∧ F m (pc + 1) L S (va_up w o (some (eI x n (upd f i.toNatClampNeg v)))) mc ms post
  | .aastore => qsrir S fun v i o S => (qwK (w v) 4 ∨ qwK (w v) 1 ∨ qwK (w v) 6) ∧ qwQ (w o) (aK x 3) fun n f => vp_in i n ∧ F m (pc + 1) L S (va_up w o (some (eQ x n (va_up f i.toNatClampNeg (some v))))) mc ms post
  | .arraylength => qsr S fun o S => qwA x (w o) o fun n => F m (pc + 1) L (.int (nI n) :: S) w mc ms post
  | .newarray t => qs1 S fun n S => (¬ n < 0) ∧ n.toNatClampNeg ≤ 1000 ∧ 1 ≤ mc ∧ n.toNatClampNeg ≤ ms ∧ ∀ o : Nat, frs x w o → match t with
    | .int => F m (pc + 2) L (.ref o :: S) (va_up w o (some (eI x n.toNatClampNeg (fun _ => 0)))) (mc - 1) (ms - n.toNatClampNeg) post
    | _ => False
  | .anewarray _ => qs1 S fun n S => (¬ n < 0) ∧ n.toNatClampNeg ≤ 1000 ∧ 1 ≤ mc ∧ n.toNatClampNeg ≤ ms ∧ ∀ o : Nat, frs x w o →
      F m (pc + 3) L (.ref o :: S) (va_up w o (some (eQ x n.toNatClampNeg (fun _ => none)))) (mc - 1) (ms - n.toNatClampNeg) post
  | .new _ => if ai.2.2.2.2.2 = 1 then (1 ≤ mc ∧ 6 ≤ ms ∧ S.length ≤ 4 ∧ post (.inr ai.2.2.1) w) else
      1 ≤ mc ∧ ai.2.2.2.1 ≤ ms ∧ ∀ o : Nat, frs x w o → F m (pc + 3) L (.ref o :: S) (va_up w o (some (eO ai.2.2.1 (dfl ai.2.2.1)))) (mc - 1) (ms - ai.2.2.2.1) post
  | .invokestatic _ => if ai.2.2.2.2.2 = 3 then qs1 S fun a S => S.length ≤ 4 ∧ F m (pc + 3) L (.int (if 0 ≤ a then a else 0 - a) :: S) w mc ms post else
      if ai.2.2.2.2.2 = 4 then qs2 S fun a b S => S.length ≤ 4 ∧ F m (pc + 3) L (.int (if a < b then b else a) :: S) w mc ms post else
      if ai.2.2.2.2.2 = 1 ∨ mH ai.2.2.1 ≠ [] then qtk ai.2.2.2.1 S [] fun args rest => rest.length ≤ 4 ∧ mMC ai.2.2.1 ≤ mc ∧ mMS ai.2.2.1 ≤ ms ∧
      CLF F ai.2.2.1 args w (aftN F m (pc + 3) L rest (mc - mMC ai.2.2.1) (ms - mMS ai.2.2.1) post) else qtk ai.2.2.2.1 S [] fun args rest => rest.length ≤ 4 ∧ mMC ai.2.2.1 ≤ mc ∧ mMS ai.2.2.1 ≤ ms ∧
      CLF F ai.2.2.1 args w (aftF F m pc (pc + 3) L rest (mc - mMC ai.2.2.1) (ms - mMS ai.2.2.1) post)
  | .invokevirtual _ => qtk ai.2.2.2.1 S [] fun args rest => rcv w args (mI ai.2.2.1) ∧ rest.length ≤ 4 ∧ mMC ai.2.2.1 ≤ mc ∧ mMS ai.2.2.1 ≤ ms ∧
      CLF F ai.2.2.1 args w (aftF F m pc (pc + 3) L rest (mc - mMC ai.2.2.1) (ms - mMS ai.2.2.1) post)
  | .invokespecial _ => if ai.2.2.2.2.2 = 2 then qsr S fun _ S => S.length ≤ 4 ∧ F m (pc + 3) L S w mc ms post else
      qtk ai.2.2.2.1 S [] fun args rest => rcI args ∧ rest.length ≤ 4 ∧ mMC ai.2.2.1 ≤ mc ∧ mMS ai.2.2.1 ≤ ms ∧
      CLF F ai.2.2.1 args w (aftN F m (pc + 3) L rest (mc - mMC ai.2.2.1) (ms - mMS ai.2.2.1) post)
  | .return_ => qsn S (mR m = none ∧ post (.inl none) w)
  | .ireturn => qs1 S fun v S => qsn S (qrt (mR m) v (post (.inl (some (.int v))) w))
  | .areturn => qsv S fun v S => qsn S (v.isRef = true ∧ post (.inl (some v)) w)
  | .checkcast _ => qsr S fun o S => qwK (w o) ai.2.2.1 ∧ F m (pc + 3) L (.ref o :: S) w mc ms post
  | .getstatic _ => F m (pc + 3) L (.ref (xE x) :: S) w mc ms post
  | .tableswitch dflt lo hi offs => qs1 S fun v S => if v.toInt < lo ∨ hi < v.toInt then F m ((pc : Int) + dflt).toNat L S w mc ms post else
      match offs[(v.toInt - lo).toNat]? with
      | some off => F m ((pc : Int) + off).toNat L S w mc ms post
      | none => False
  | _ => False
def stepP (x : Cx) (F : FT) (m pc : Nat) (L : Lc) (S : List Value) (w : Wd) (mc ms : Nat) (post : Po) : Prop := match cdAt m pc with
  | none => False
  | some ai => stepI x ai F m pc L S w mc ms post
section
variable {S : List Value} {L : Lc} {i : Nat}
theorem qs1_m {K K' : Int32 → List Value → Prop} (h : ∀ a S, K a S → K' a S) : qs1 S K → qs1 S K' := by unfold qs1; split <;> first | exact h _ _ | exact id
theorem qs2_m {K K' : Int32 → Int32 → List Value → Prop} (h : ∀ a b S, K a b S → K' a b S) : qs2 S K → qs2 S K' := by unfold qs2; split <;> first | exact h _ _ _ | exact id
theorem qsr_m {K K' : Nat → List Value → Prop} (h : ∀ a S, K a S → K' a S) : qsr S K → qsr S K' := by unfold qsr; split <;> first | exact h _ _ | exact id
theorem qsv_m {K K' : Value → List Value → Prop} (h : ∀ a S, K a S → K' a S) : qsv S K → qsv S K' := by unfold qsv; split <;> first | exact h _ _ | exact id
theorem qsir_m {K K' : Int32 → Nat → List Value → Prop} (h : ∀ a b S, K a b S → K' a b S) : qsir S K → qsir S K' := by unfold qsir; split <;> first | exact h _ _ _ | exact id
theorem qsiir_m {K K' : Int32 → Int32 → Nat → List Value → Prop} (h : ∀ a b c S, K a b c S → K' a b c S) : qsiir S K → qsiir S K' := by unfold qsiir; split <;> first | exact h _ _ _ _ | exact id
theorem qslir_m {K K' : Int64 → Int32 → Nat → List Value → Prop} (h : ∀ a b c S, K a b c S → K' a b c S) : qslir S K → qslir S K' := by unfold qslir; split <;> first | exact h _ _ _ _ | exact id
theorem qsrir_m {K K' : Nat → Int32 → Nat → List Value → Prop} (h : ∀ a b c S, K a b c S → K' a b c S) : qsrir S K → qsrir S K' := by unfold qsrir; split <;> first | exact h _ _ _ _ | exact id
theorem qsvr_m {K K' : Value → Nat → List Value → Prop} (h : ∀ a b S, K a b S → K' a b S) : qsvr S K → qsvr S K' := by unfold qsvr; split <;> first | exact h _ _ _ | exact id
theorem qsrr_m {K K' : Nat → Nat → List Value → Prop} (h : ∀ a b S, K a b S → K' a b S) : qsrr S K → qsrr S K' := by unfold qsrr; split <;> first | exact h _ _ _ | exact id
theorem qsll_m {K K' : Int64 → Int64 → List Value → Prop} (h : ∀ a b S, K a b S → K' a b S) : qsll S K → qsll S K' := by unfold qsll; split <;> first | exact h _ _ _ | exact id
theorem qsn_m {P P' : Prop} (h : P → P') : qsn S P → qsn S P' := by unfold qsn; split <;> first | exact h | exact id
theorem qlI_m {K K' : Int32 → Prop} (h : ∀ a, K a → K' a) : qlI L i K → qlI L i K' := by unfold qlI; split <;> first | exact h _ | exact id
theorem qlA_m {K K' : Value → Prop} (h : ∀ a, K a → K' a) : qlA L i K → qlA L i K' := by unfold qlA; split <;> first | exact h _ | exact id
theorem qwO_m {e : Option va_E} {ci : Nat} {K K' : List Value → Prop} (h : ∀ a, K a → K' a) : qwO e ci K → qwO e ci K' := by unfold qwO; split <;> first | exact And.imp_right (h _) | exact id
theorem qwV_m {fs : List Value} {k : Nat} {K K' : Value → Prop} (h : ∀ a, K a → K' a) : qwV fs k K → qwV fs k K' := by unfold qwV; split <;> first | exact h _ | exact id
theorem qwI_m {e : Option va_E} {c : ClassId} {K K' : Nat → (Nat → Int32) → Prop} (h : ∀ a b, K a b → K' a b) : qwI e c K → qwI e c K' := by unfold qwI; split <;> first | exact And.imp_right (h _ _) | exact id
theorem qwL_m {x : Cx} {e : Option va_E} {o : Nat} {K K' : Nat → (Nat → Int32) → Prop} (h : ∀ a b, K a b → K' a b) : qwL x e o K → qwL x e o K' := by unfold qwL; split <;> first | exact And.imp_right (h _ _) | exact id
theorem qwJ_m {e : Option va_E} {c : ClassId} {K K' : Nat → (Nat → Int64) → Prop} (h : ∀ a b, K a b → K' a b) : qwJ e c K → qwJ e c K' := by unfold qwJ; split <;> first | exact And.imp_right (h _ _) | exact id
theorem qwQ_m {e : Option va_E} {c : ClassId} {K K' : Nat → (Nat → Option Nat) → Prop} (h : ∀ a b, K a b → K' a b) : qwQ e c K → qwQ e c K' := by unfold qwQ; split <;> first | exact And.imp_right (h _ _) | exact id
theorem qif_m {c : Prop} [Decidable c] {A B A' B' : Prop} (h1 : A → A') (h2 : B → B') : (if c then A else B) → (if c then A' else B') := by split <;> assumption
theorem qwA_m {x : Cx} {e : Option va_E} {o : Nat} {K K' : Nat → Prop} (h : ∀ a, K a → K' a) : qwA x e o K → qwA x e o K' := by
  unfold qwA; split <;> first | exact qif_m (h _) (And.imp_right (h _)) | exact And.imp_right (h _) | exact id
theorem qty_m {ty : FieldType} {v : Value} {P P' : Prop} (h : P → P') : qty ty v P → qty ty v P' := by unfold qty; split <;> first | exact h | exact And.imp_right h | exact id
theorem qrt_m {r : Option FieldType} {v : Int32} {P P' : Prop} (h : P → P') : qrt r v P → qrt r v P' := by unfold qrt; split <;> first | exact h | exact And.imp_right h | exact id
theorem qtk_m {K K' : List Value → List Value → Prop} (h : ∀ a b, K a b → K' a b) : ∀ (n : Nat) (S acc : List Value), qtk n S acc K → qtk n S acc K'
  | 0, S, acc => h _ _
  | n + 1, v :: S, acc => qtk_m h n S (v :: acc)
  | _ + 1, [], _ => id
theorem qal_m {α : Type} {P P' : α → Prop} (h : ∀ a, P a → P' a) : (∀ a, P a) → ∀ a, P' a := fun g a => h a (g a)
theorem qim_m {A B B' : Prop} (h : B → B') : (A → B) → A → B' := fun g a => h (g a)
end
