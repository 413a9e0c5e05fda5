/-! the judgement -/
abbrev Fi : Type := (Program × Launch × Env × Room × State) × (MethodId × Array Value × List Frame × Method × Code) × (va_G × (Nat → ClassId) × (Nat → Prop) × (State → Prop) × Hp)
def Jd (φ : Fi) (X : Hp) (kc ks pc : Nat) (lo : List (Option Value)) (st : List Value) : Prop := match φ with
  | ((p, l, e, R, s), (m, args, below, meth, c), D, cy, A, Q, X0) => ∀ (H : Heap) (locs : List Loc) (ls : Array Slot), PO D cy X A H → XE X0 X → va_S A s.heap H locs → lh ls lo → W p l e R s m args below meth c H locs kc ks Q (F0 m pc ls st)
def Fx (φ : Fi) (cc : ByteArray) (nL : Nat) (ow : String) (rt : Option FieldType) (nm : String) (fr lw KC KS : Nat) : Prop := match φ with
  | ((p, _, _, R, s), (m, _, _, meth, c), D, cy, A, _, _) => p.tables.exec = Jvm.exec ∧ c.code = cc ∧ c.maxLocals = nL ∧ s.vm.findClass ow = some m.cls ∧ Kw s ∧ meth.locks = false ∧ meth.sig.returnType = rt ∧ meth.name = nm ∧ va_K D vwCl (ja_tys cy) s ∧ (∀ q, s.heap.size ≤ q → A q) ∧ R = { frames := fr, cells := KC, slots := KS, locals := lw }
def AX (X : Hp) (sz : Nat) : Nat → Prop := fun q => (∃ v, X q = some v) ∨ sz ≤ q
def Qp (D : va_G) (cy : Nat → ClassId) (X : Hp) (sz : Nat) (post : Option Value → Hp → Prop) : Array Value → State → Outcome → State → Prop := fun _ st oc t => (∃ (v : Option Value) (X' : Hp), oc = .returned v ∧ post v X' ∧ XE X X' ∧ PO D cy X' (AX X sz) t.heap) ∧ va_F (AX X sz) st t
def Pp (D : va_G) (cy : Nat → ClassId) (X : Hp) (sz : Nat) : State → Prop := fun U => U.heap.size = sz ∧ Kw U ∧ va_K D vwCl (ja_tys cy) U ∧ PO D cy X (fun _ => True) U.heap
/-- a method's contract at given arguments and heap -/
def Ct (y : MethodName) (cc : ByteArray) (nL : Nat) (rt : Option FieldType) (fr lw : Nat) (av : List Value) (X : Hp) (kc ks : Nat) (post : Option Value → Hp → Prop) : Prop :=
  ∀ (l : Launch) (D : va_G) (cy : Nat → ClassId) (sz : Nat), Met l y [.code y cc nL rt] { frames := fr, cells := kc, slots := ks, locals := lw } (va_Pc av (Pp D cy X sz)) (Qp D cy X sz post) kc ks (AX X sz)
def Rx (φ : Fi) (X : Hp) (kc ks : Nat) (post : Option Value → Hp → Prop) : Prop := match φ with
  | ((_, _, _, _, s), (_, args, below, _, _), D, cy, A, Q, X0) => Q = MQ below (Qp D cy X s.heap.size post) args s kc ks (AX X s.heap.size) ∧ A = AX X s.heap.size ∧ X0 = X
theorem Pp.moved {D : va_G} {cy : Nat → ClassId} {X : Hp} {sz : Nat} {s U : State} (hW : s.WarmedH U.vm) (h : Pp D cy X sz s) (he : U.heap = s.heap) : Pp D cy X sz U := by
  obtain ⟨h1, h2, h3, h4⟩ := h
  exact ⟨by rw [he]; exact h1, h2.moved hW, va_K.moved hW.alike h3, by rw [he]; exact h4⟩
theorem Pp.blind {D : va_G} {cy : Nat → ClassId} {X : Hp} {sz : Nat} {av : List Value} : FrameBlind (va_Pc av (Pp D cy X sz)) := fun a U g mk q => ⟨q.1, Pp.moved (s := U) (U := U.calling g mk a) (State.WarmedH.refl U) q.2 rfl⟩
theorem Ct.of {y : MethodName} {cc : ByteArray} {nL : Nat} {rt : Option FieldType} {fr lw : Nat} {av : List Value} {X : Hp} {kc ks : Nat} {post : Option Value → Hp → Prop} (hs : plainName y.cls = true) (lo : List (Option Value)) (hlo : eo av ++ List.replicate (nL - (eo av).length) none = lo) (hle : (eo av).length ≤ nL)
    (body : ∀ φ : Fi, Fx φ cc nL y.cls rt y.name fr lw kc ks → Rx φ X kc ks post → Jd φ X 0 0 0 lo []) : Ct y cc nL rt fr lw av X kc ks post := by
  intro l D cy sz
  refine Met.ofW (cc := cc) (maxL := nL) (ret := rt) hs rfl ?_
  intro p e s m args below meth c s₁ B hml hv
  obtain ⟨rfl, rfl, hKw, hK, hP⟩ := hv
  rw [lg_entry_eq]
  exact body ((p, l, e, _, s), (m, av.toArray, below, meth, c), D, cy, AX X s.heap.size, _, X) ⟨B.exec, B.bytes, hml, findClass_of_methodNamed B.named, hKw, B.notSynchronized, B.returns, (name_of_methodNamed B.named B.method).1, hK, fun q h => Or.inr h, rfl⟩ ⟨rfl, rfl, rfl⟩ s.heap [] _ (hP.self (fun a q h => Or.inl ⟨q, h⟩)) (XE.refl X) va_S.rf (hlo ▸ lh.entry av hle)
section RULES
variable {φ : Fi} {X : Hp} {kc ks pc : Nat} {lo : List (Option Value)} {st : List Value} {cc : ByteArray} {nL : Nat} {ow : String} {rt : Option FieldType} {nm : String} {fr lw KC KS : Nat}
theorem j_ext {X' : Hp} (h : Jd φ X' kc ks pc lo st) (e : X' = X) : Jd φ X kc ks pc lo st := e ▸ h
theorem j_widen {k n : Nat} (h1 : kc ≤ k) (h2 : ks ≤ n) (kk : Jd φ X k n pc lo st) : Jd φ X kc ks pc lo st := by
  obtain ⟨⟨p, l, e, R, s⟩, ⟨m, args, below, meth, c⟩, D, cy, A, Q, X0⟩ := φ
  exact fun H locs ls a b d f => W.widen h1 h2 (kk H locs ls a b d f)
/-- what the cells hold -/
theorem j_ok (kk : ja_ok X → Jd φ X kc ks pc lo st) : Jd φ X kc ks pc lo st := by
  obtain ⟨⟨p, l, e, R, s⟩, ⟨m, args, below, meth, c⟩, D, cy, A, Q, X0⟩ := φ
  exact fun H locs ls a b d f => kk a.2 H locs ls a b d f
theorem j_iconst (hF : Fx φ cc nL ow rt nm fr lw KC KS) {n : Int} (hd : decode cc pc = .ok (.iconst n, 1)) (kk : Jd φ X kc ks (pc + 1) lo (vi n :: st)) : Jd φ X kc ks pc lo st := by
  obtain ⟨⟨p, l, e, R, s⟩, ⟨m, args, below, meth, c⟩, D, cy, A, Q, X0⟩ := φ
  exact fun H locs ls a b d f => lv_iconst hF.1 hF.2.1 hd rfl (kk H locs ls a b d f)
theorem j_bipush (hF : Fx φ cc nL ow rt nm fr lw KC KS) {n : Int} (hd : decode cc pc = .ok (.bipush n, 2)) (hv : (Int8.ofInt n).toInt32 = Int32.ofInt n) (kk : Jd φ X kc ks (pc + 2) lo (vi n :: st)) : Jd φ X kc ks pc lo st := by
  obtain ⟨⟨p, l, e, R, s⟩, ⟨m, args, below, meth, c⟩, D, cy, A, Q, X0⟩ := φ
  exact fun H locs ls a b d f => lv_bipush hF.1 hF.2.1 hd hv (kk H locs ls a b d f)
theorem j_sipush (hF : Fx φ cc nL ow rt nm fr lw KC KS) {n : Int} (hd : decode cc pc = .ok (.sipush n, 3)) (hv : (Int16.ofInt n).toInt32 = Int32.ofInt n) (kk : Jd φ X kc ks (pc + 3) lo (vi n :: st)) : Jd φ X kc ks pc lo st := by
  obtain ⟨⟨p, l, e, R, s⟩, ⟨m, args, below, meth, c⟩, D, cy, A, Q, X0⟩ := φ
  exact fun H locs ls a b d f => lv_sipush hF.1 hF.2.1 hd hv (kk H locs ls a b d f)
theorem j_ldc (hF : Fx φ cc nL ow rt nm fr lw KC KS) {idx : Nat} {n : Int} (hw : Cond.constant ow idx (Int32.ofInt n) ∈ lw_tbl ∧ kw (Cond.constant ow idx (Int32.ofInt n)) = true) (hd : decode cc pc = .ok (.ldc idx, 2)) (kk : Jd φ X kc ks (pc + 2) lo (vi n :: st)) : Jd φ X kc ks pc lo st := by
  obtain ⟨⟨p, l, e, R, s⟩, ⟨m, args, below, meth, c⟩, D, cy, A, Q, X0⟩ := φ
  exact fun H locs ls a b d f => lv_ldc hF.1 hF.2.1 hF.2.2.2.1 (hF.2.2.2.2.1.at hw _) hd (kk H locs ls a b d f)
theorem j_ldc2 (hF : Fx φ cc nL ow rt nm fr lw KC KS) {idx : Nat} {v : Int64} (hw : Cond.constantLong ow idx v ∈ lw_tbl ∧ kw (Cond.constantLong ow idx v) = true) (hd : decode cc pc = .ok (.ldc2_w idx, 3)) (kk : Jd φ X kc ks (pc + 3) lo (.long v :: st)) : Jd φ X kc ks pc lo st := by
  obtain ⟨⟨p, l, e, R, s⟩, ⟨m, args, below, meth, c⟩, D, cy, A, Q, X0⟩ := φ
  exact fun H locs ls a b d f => lv_ldc2 hF.1 hF.2.1 hF.2.2.2.1 (hF.2.2.2.2.1.at hw _) hd (kk H locs ls a b d f)
theorem j_iload_n (hF : Fx φ cc nL ow rt nm fr lw KC KS) {k : Fin 4} {x : Int32} (hd : decode cc pc = .ok (.iload_n k, 1)) (hl : lo[(k : Nat)]? = some (some (.int x))) (kk : Jd φ X kc ks (pc + 1) lo (.int x :: st)) : Jd φ X kc ks pc lo st := by
  obtain ⟨⟨p, l, e, R, s⟩, ⟨m, args, below, meth, c⟩, D, cy, A, Q, X0⟩ := φ
  exact fun H locs ls a b d f => lv_iload_n hF.1 hF.2.1 hd rfl (f.at hl) (kk H locs ls a b d f)
theorem j_iload (hF : Fx φ cc nL ow rt nm fr lw KC KS) {k : Nat} {x : Int32} (hd : decode cc pc = .ok (.iload k, 2)) (hl : lo[k]? = some (some (.int x))) (kk : Jd φ X kc ks (pc + 2) lo (.int x :: st)) : Jd φ X kc ks pc lo st := by
  obtain ⟨⟨p, l, e, R, s⟩, ⟨m, args, below, meth, c⟩, D, cy, A, Q, X0⟩ := φ
  exact fun H locs ls a b d f => lv_iload hF.1 hF.2.1 hd (f.at hl) (kk H locs ls a b d f)
theorem j_lload_n (hF : Fx φ cc nL ow rt nm fr lw KC KS) {k : Fin 4} {x : Int64} (hd : decode cc pc = .ok (.lload_n k, 1)) (hl : lo[(k : Nat)]? = some (some (.long x))) (kk : Jd φ X kc ks (pc + 1) lo (.long x :: st)) : Jd φ X kc ks pc lo st := by
  obtain ⟨⟨p, l, e, R, s⟩, ⟨m, args, below, meth, c⟩, D, cy, A, Q, X0⟩ := φ
  exact fun H locs ls a b d f => lv_lload_n hF.1 hF.2.1 hd rfl (f.at hl) (kk H locs ls a b d f)
theorem j_lload (hF : Fx φ cc nL ow rt nm fr lw KC KS) {k : Nat} {x : Int64} (hd : decode cc pc = .ok (.lload k, 2)) (hl : lo[k]? = some (some (.long x))) (kk : Jd φ X kc ks (pc + 2) lo (.long x :: st)) : Jd φ X kc ks pc lo st := by
  obtain ⟨⟨p, l, e, R, s⟩, ⟨m, args, below, meth, c⟩, D, cy, A, Q, X0⟩ := φ
  exact fun H locs ls a b d f => lv_lload hF.1 hF.2.1 hd (f.at hl) (kk H locs ls a b d f)
theorem j_aload_n (hF : Fx φ cc nL ow rt nm fr lw KC KS) {k : Fin 4} {x : Nat} (hd : decode cc pc = .ok (.aload_n k, 1)) (hl : lo[(k : Nat)]? = some (some (.ref x))) (kk : Jd φ X kc ks (pc + 1) lo (.ref x :: st)) : Jd φ X kc ks pc lo st := by
  obtain ⟨⟨p, l, e, R, s⟩, ⟨m, args, below, meth, c⟩, D, cy, A, Q, X0⟩ := φ
  exact fun H locs ls a b d f => lv_aload_n hF.1 hF.2.1 hd rfl (f.at hl) (kk H locs ls a b d f)
theorem j_aload (hF : Fx φ cc nL ow rt nm fr lw KC KS) {k : Nat} {x : Nat} (hd : decode cc pc = .ok (.aload k, 2)) (hl : lo[k]? = some (some (.ref x))) (kk : Jd φ X kc ks (pc + 2) lo (.ref x :: st)) : Jd φ X kc ks pc lo st := by
  obtain ⟨⟨p, l, e, R, s⟩, ⟨m, args, below, meth, c⟩, D, cy, A, Q, X0⟩ := φ
  exact fun H locs ls a b d f => lv_aload hF.1 hF.2.1 hd (f.at hl) (kk H locs ls a b d f)
theorem j_istore_n (hF : Fx φ cc nL ow rt nm fr lw KC KS) {k : Fin 4} {x : Int32} (hd : decode cc pc = .ok (.istore_n k, 1)) (hi : (k : Nat) < lo.length) (hk : ok1 lo k = true) (kk : Jd φ X kc ks (pc + 1) (lo.set k (some (.int x))) st) : Jd φ X kc ks pc lo (.int x :: st) := by
  obtain ⟨⟨p, l, e, R, s⟩, ⟨m, args, below, meth, c⟩, D, cy, A, Q, X0⟩ := φ
  exact fun H locs ls a b d f => lv_istore_n hF.1 hF.2.1 hd rfl f hi rfl (fun ls' h' => kk H locs ls' a b d (lh.set1 hi hk h'))
theorem j_istore (hF : Fx φ cc nL ow rt nm fr lw KC KS) {k : Nat} {x : Int32} (hd : decode cc pc = .ok (.istore k, 2)) (hi : k < lo.length) (hk : ok1 lo k = true) (kk : Jd φ X kc ks (pc + 2) (lo.set k (some (.int x))) st) : Jd φ X kc ks pc lo (.int x :: st) := by
  obtain ⟨⟨p, l, e, R, s⟩, ⟨m, args, below, meth, c⟩, D, cy, A, Q, X0⟩ := φ
  exact fun H locs ls a b d f => lv_istore hF.1 hF.2.1 hd f hi rfl (fun ls' h' => kk H locs ls' a b d (lh.set1 hi hk h'))
theorem j_astore_n (hF : Fx φ cc nL ow rt nm fr lw KC KS) {k : Fin 4} {x : Nat} (hd : decode cc pc = .ok (.astore_n k, 1)) (hi : (k : Nat) < lo.length) (hk : ok1 lo k = true) (kk : Jd φ X kc ks (pc + 1) (lo.set k (some (.ref x))) st) : Jd φ X kc ks pc lo (.ref x :: st) := by
  obtain ⟨⟨p, l, e, R, s⟩, ⟨m, args, below, meth, c⟩, D, cy, A, Q, X0⟩ := φ
  exact fun H locs ls a b d f => lv_astore_n hF.1 hF.2.1 hd rfl f hi rfl (fun ls' h' => kk H locs ls' a b d (lh.set1 hi hk h'))
theorem j_astore (hF : Fx φ cc nL ow rt nm fr lw KC KS) {k : Nat} {x : Nat} (hd : decode cc pc = .ok (.astore k, 2)) (hi : k < lo.length) (hk : ok1 lo k = true) (kk : Jd φ X kc ks (pc + 2) (lo.set k (some (.ref x))) st) : Jd φ X kc ks pc lo (.ref x :: st) := by
  obtain ⟨⟨p, l, e, R, s⟩, ⟨m, args, below, meth, c⟩, D, cy, A, Q, X0⟩ := φ
  exact fun H locs ls a b d f => lv_astore hF.1 hF.2.1 hd f hi rfl (fun ls' h' => kk H locs ls' a b d (lh.set1 hi hk h'))
theorem j_lstore_n (hF : Fx φ cc nL ow rt nm fr lw KC KS) {k : Fin 4} {x : Int64} (hd : decode cc pc = .ok (.lstore_n k, 1)) (hi : (k : Nat) + 1 < lo.length) (hk : ok1 lo k = true) (kk : Jd φ X kc ks (pc + 1) ((lo.set k (some (.long x))).set ((k : Nat) + 1) none) st) : Jd φ X kc ks pc lo (.long x :: st) := by
  obtain ⟨⟨p, l, e, R, s⟩, ⟨m, args, below, meth, c⟩, D, cy, A, Q, X0⟩ := φ
  exact fun H locs ls a b d f => lv_lstore_n hF.1 hF.2.1 hd rfl f hi rfl (fun ls' h' => kk H locs ls' a b d (lh.set2 hi hk h'))
theorem j_lstore (hF : Fx φ cc nL ow rt nm fr lw KC KS) {k : Nat} {x : Int64} (hd : decode cc pc = .ok (.lstore k, 2)) (hi : k + 1 < lo.length) (hk : ok1 lo k = true) (kk : Jd φ X kc ks (pc + 2) ((lo.set k (some (.long x))).set (k + 1) none) st) : Jd φ X kc ks pc lo (.long x :: st) := by
  obtain ⟨⟨p, l, e, R, s⟩, ⟨m, args, below, meth, c⟩, D, cy, A, Q, X0⟩ := φ
  exact fun H locs ls a b d f => lv_lstore hF.1 hF.2.1 hd f hi rfl (fun ls' h' => kk H locs ls' a b d (lh.set2 hi hk h'))
theorem j_iinc (hF : Fx φ cc nL ow rt nm fr lw KC KS) {k : Nat} {n x : Int} (hd : decode cc pc = .ok (.iinc k n, 3)) (hl : lo[k]? = some (some (vi x))) (hi : k < lo.length) (hk : ok1 lo k = true) (kk : Jd φ X kc ks (pc + 3) (lo.set k (some (vi (x + n)))) st) : Jd φ X kc ks pc lo st := by
  obtain ⟨⟨p, l, e, R, s⟩, ⟨m, args, below, meth, c⟩, D, cy, A, Q, X0⟩ := φ
  intro H locs ls a b d f
  obtain ⟨kp, hkp⟩ := List.getElem?_of_mem ((ja_ll_mem lo 0 k (vi x)).mpr ⟨k, by omega, hl⟩)
  exact lv_iinc (k := kp) hF.1 hF.2.1 hd f hkp (ja_add x n) hi rfl (fun ls' h' => kk H locs ls' a b d (lh.set1 hi hk h'))
theorem j_iadd (hF : Fx φ cc nL ow rt nm fr lw KC KS) {x y : Int} (hd : decode cc pc = .ok (.iadd, 1)) (kk : Jd φ X kc ks (pc + 1) lo (vi (x + y) :: st)) : Jd φ X kc ks pc lo (vi y :: vi x :: st) := by
  obtain ⟨⟨p, l, e, R, s⟩, ⟨m, args, below, meth, c⟩, D, cy, A, Q, X0⟩ := φ
  exact fun H locs ls a b d f => lv_iadd hF.1 hF.2.1 hd (by rw [ja_add]; exact kk H locs ls a b d f)
theorem j_isub (hF : Fx φ cc nL ow rt nm fr lw KC KS) {x y : Int} (hd : decode cc pc = .ok (.isub, 1)) (kk : Jd φ X kc ks (pc + 1) lo (vi (x - y) :: st)) : Jd φ X kc ks pc lo (vi y :: vi x :: st) := by
  obtain ⟨⟨p, l, e, R, s⟩, ⟨m, args, below, meth, c⟩, D, cy, A, Q, X0⟩ := φ
  exact fun H locs ls a b d f => lv_isub hF.1 hF.2.1 hd (by rw [ja_sub]; exact kk H locs ls a b d f)
theorem j_imul (hF : Fx φ cc nL ow rt nm fr lw KC KS) {x y : Int} (hd : decode cc pc = .ok (.imul, 1)) (kk : Jd φ X kc ks (pc + 1) lo (vi (x * y) :: st)) : Jd φ X kc ks pc lo (vi y :: vi x :: st) := by
  obtain ⟨⟨p, l, e, R, s⟩, ⟨m, args, below, meth, c⟩, D, cy, A, Q, X0⟩ := φ
  exact fun H locs ls a b d f => lv_imul hF.1 hF.2.1 hd (by rw [ja_mul]; exact kk H locs ls a b d f)
theorem j_idiv (hF : Fx φ cc nL ow rt nm fr lw KC KS) {x y : Int} (hd : decode cc pc = .ok (.idiv, 1)) (hr : (0 ≤ x ∧ x ≤ 2147483647) ∧ 0 < y ∧ y ≤ 2147483647) (kk : Jd φ X kc ks (pc + 1) lo (vi (x / y) :: st)) : Jd φ X kc ks pc lo (vi y :: vi x :: st) := by
  obtain ⟨⟨p, l, e, R, s⟩, ⟨m, args, below, meth, c⟩, D, cy, A, Q, X0⟩ := φ
  exact fun H locs ls a b d f => lv_idiv hF.1 hF.2.1 hd (ja_ne0 hr.2.1 hr.2.2) (by rw [ja_div hr.1.1 hr.1.2 hr.2.1 hr.2.2]; exact kk H locs ls a b d f)
theorem j_irem (hF : Fx φ cc nL ow rt nm fr lw KC KS) {x y : Int} (hd : decode cc pc = .ok (.irem, 1)) (hr : (0 ≤ x ∧ x ≤ 2147483647) ∧ 0 < y ∧ y ≤ 2147483647) (kk : Jd φ X kc ks (pc + 1) lo (vi (x % y) :: st)) : Jd φ X kc ks pc lo (vi y :: vi x :: st) := by
  obtain ⟨⟨p, l, e, R, s⟩, ⟨m, args, below, meth, c⟩, D, cy, A, Q, X0⟩ := φ
  exact fun H locs ls a b d f => lv_irem hF.1 hF.2.1 hd (ja_ne0 hr.2.1 hr.2.2) (by rw [ja_rem hr.1.1 hr.1.2 hr.2.1 hr.2.2]; exact kk H locs ls a b d f)
theorem j_iand (hF : Fx φ cc nL ow rt nm fr lw KC KS) {x y : Int32} (z : Int) (hz : x &&& y = Int32.ofInt z) (hd : decode cc pc = .ok (.iand, 1)) (kk : Jd φ X kc ks (pc + 1) lo (vi z :: st)) : Jd φ X kc ks pc lo (.int y :: .int x :: st) := by
  obtain ⟨⟨p, l, e, R, s⟩, ⟨m, args, below, meth, c⟩, D, cy, A, Q, X0⟩ := φ
  exact fun H locs ls a b d f => lv_iand hF.1 hF.2.1 hd (by rw [hz]; exact kk H locs ls a b d f)
theorem j_ior (hF : Fx φ cc nL ow rt nm fr lw KC KS) {x y : Int32} (z : Int) (hz : x ||| y = Int32.ofInt z) (hd : decode cc pc = .ok (.ior, 1)) (kk : Jd φ X kc ks (pc + 1) lo (vi z :: st)) : Jd φ X kc ks pc lo (.int y :: .int x :: st) := by
  obtain ⟨⟨p, l, e, R, s⟩, ⟨m, args, below, meth, c⟩, D, cy, A, Q, X0⟩ := φ
  exact fun H locs ls a b d f => lv_ior hF.1 hF.2.1 hd (by rw [hz]; exact kk H locs ls a b d f)
theorem j_ixor (hF : Fx φ cc nL ow rt nm fr lw KC KS) {x y : Int32} (z : Int) (hz : x ^^^ y = Int32.ofInt z) (hd : decode cc pc = .ok (.ixor, 1)) (kk : Jd φ X kc ks (pc + 1) lo (vi z :: st)) : Jd φ X kc ks pc lo (.int y :: .int x :: st) := by
  obtain ⟨⟨p, l, e, R, s⟩, ⟨m, args, below, meth, c⟩, D, cy, A, Q, X0⟩ := φ
  exact fun H locs ls a b d f => lv_ixor hF.1 hF.2.1 hd (by rw [hz]; exact kk H locs ls a b d f)
theorem j_ishl (hF : Fx φ cc nL ow rt nm fr lw KC KS) {x y : Int32} (z : Int) (hz : x <<< (y &&& 31) = Int32.ofInt z) (hd : decode cc pc = .ok (.ishl, 1)) (kk : Jd φ X kc ks (pc + 1) lo (vi z :: st)) : Jd φ X kc ks pc lo (.int y :: .int x :: st) := by
  obtain ⟨⟨p, l, e, R, s⟩, ⟨m, args, below, meth, c⟩, D, cy, A, Q, X0⟩ := φ
  exact fun H locs ls a b d f => lv_ishl hF.1 hF.2.1 hd (by rw [hz]; exact kk H locs ls a b d f)
theorem j_ishr (hF : Fx φ cc nL ow rt nm fr lw KC KS) {x y : Int32} (z : Int) (hz : x >>> (y &&& 31) = Int32.ofInt z) (hd : decode cc pc = .ok (.ishr, 1)) (kk : Jd φ X kc ks (pc + 1) lo (vi z :: st)) : Jd φ X kc ks pc lo (.int y :: .int x :: st) := by
  obtain ⟨⟨p, l, e, R, s⟩, ⟨m, args, below, meth, c⟩, D, cy, A, Q, X0⟩ := φ
  exact fun H locs ls a b d f => lv_ishr hF.1 hF.2.1 hd (by rw [hz]; exact kk H locs ls a b d f)
theorem j_iushr (hF : Fx φ cc nL ow rt nm fr lw KC KS) {x y : Int32} (z : Int) (hz : (x.toUInt32 >>> (y.toUInt32 &&& Int32.toUInt32 31)).toInt32 = Int32.ofInt z) (hd : decode cc pc = .ok (.iushr, 1)) (kk : Jd φ X kc ks (pc + 1) lo (vi z :: st)) : Jd φ X kc ks pc lo (.int y :: .int x :: st) := by
  obtain ⟨⟨p, l, e, R, s⟩, ⟨m, args, below, meth, c⟩, D, cy, A, Q, X0⟩ := φ
  exact fun H locs ls a b d f => lv_iushr hF.1 hF.2.1 hd hz (kk H locs ls a b d f)
theorem j_ladd (hF : Fx φ cc nL ow rt nm fr lw KC KS) {x y : Int64} (hd : decode cc pc = .ok (.ladd, 1)) (kk : Jd φ X kc ks (pc + 1) lo (.long (x + y) :: st)) : Jd φ X kc ks pc lo (.long y :: .long x :: st) := by
  obtain ⟨⟨p, l, e, R, s⟩, ⟨m, args, below, meth, c⟩, D, cy, A, Q, X0⟩ := φ
  exact fun H locs ls a b d f => lv_ladd hF.1 hF.2.1 hd (kk H locs ls a b d f)
theorem j_lmul (hF : Fx φ cc nL ow rt nm fr lw KC KS) {x y : Int64} (hd : decode cc pc = .ok (.lmul, 1)) (kk : Jd φ X kc ks (pc + 1) lo (.long (x * y) :: st)) : Jd φ X kc ks pc lo (.long y :: .long x :: st) := by
  obtain ⟨⟨p, l, e, R, s⟩, ⟨m, args, below, meth, c⟩, D, cy, A, Q, X0⟩ := φ
  exact fun H locs ls a b d f => lv_lmul hF.1 hF.2.1 hd (kk H locs ls a b d f)
theorem j_i2l (hF : Fx φ cc nL ow rt nm fr lw KC KS) {x : Int32} (hd : decode cc pc = .ok (.i2l, 1)) (kk : Jd φ X kc ks (pc + 1) lo (.long x.toInt64 :: st)) : Jd φ X kc ks pc lo (.int x :: st) := by
  obtain ⟨⟨p, l, e, R, s⟩, ⟨m, args, below, meth, c⟩, D, cy, A, Q, X0⟩ := φ
  exact fun H locs ls a b d f => lv_i2l hF.1 hF.2.1 hd rfl (kk H locs ls a b d f)
theorem j_dup (hF : Fx φ cc nL ow rt nm fr lw KC KS) {v : Value} (hd : decode cc pc = .ok (.dup, 1)) (hv : v.category = 1) (kk : Jd φ X kc ks (pc + 1) lo (v :: v :: st)) : Jd φ X kc ks pc lo (v :: st) := by
  obtain ⟨⟨p, l, e, R, s⟩, ⟨m, args, below, meth, c⟩, D, cy, A, Q, X0⟩ := φ
  exact fun H locs ls a b d f => lv_dup hF.1 hF.2.1 hd hv (kk H locs ls a b d f)
theorem j_dup2 (hF : Fx φ cc nL ow rt nm fr lw KC KS) {v w : Value} (hd : decode cc pc = .ok (.dup2, 1)) (hv : v.category = 1) (hw : w.category = 1) (kk : Jd φ X kc ks (pc + 1) lo (v :: w :: v :: w :: st)) : Jd φ X kc ks pc lo (v :: w :: st) := by
  obtain ⟨⟨p, l, e, R, s⟩, ⟨m, args, below, meth, c⟩, D, cy, A, Q, X0⟩ := φ
  exact fun H locs ls a b d f => lv_dup2_11 hF.1 hF.2.1 hd hv hw (kk H locs ls a b d f)
theorem j_goto (hF : Fx φ cc nL ow rt nm fr lw KC KS) {off : Int} (tgt : Nat) (hd : decode cc pc = .ok (.goto off, 3)) (ht : (pc : Int) + off = (tgt : Int)) (kk : Jd φ X kc ks tgt lo st) : Jd φ X kc ks pc lo st := by
  obtain ⟨⟨p, l, e, R, s⟩, ⟨m, args, below, meth, c⟩, D, cy, A, Q, X0⟩ := φ
  exact fun H locs ls a b d f => lv_goto hF.1 hF.2.1 hd ht (kk H locs ls a b d f)
abbrev rg (a : Int) : Prop := -2147483648 ≤ a ∧ a ≤ 2147483647
theorem j_icmp_eq (hF : Fx φ cc nL ow rt nm fr lw KC KS) {x y : Int} {off : Int} (tgt : Nat) (hd : decode cc pc = .ok (.if_icmp .eq off, 3)) (ht : (pc : Int) + off = (tgt : Int)) (hr : (-2147483648 ≤ x ∧ x ≤ 2147483647) ∧ -2147483648 ≤ y ∧ y ≤ 2147483647) (kt : x = y → Jd φ X kc ks tgt lo st) (kf : ¬ x = y → Jd φ X kc ks (pc + 3) lo st) : Jd φ X kc ks pc lo (vi y :: vi x :: st) := by
  obtain ⟨⟨p, l, e, R, s⟩, ⟨m, args, below, meth, c⟩, D, cy, A, Q, X0⟩ := φ
  exact fun H locs ls a b d f => lv_icmp_eq hF.1 hF.2.1 hd ht (fun h => kt ((ja_eq hr.1.1 hr.1.2 hr.2.1 hr.2.2).mp h) H locs ls a b d f) (fun h => kf (fun q => h ((ja_eq hr.1.1 hr.1.2 hr.2.1 hr.2.2).mpr q)) H locs ls a b d f)
theorem j_icmp_ne (hF : Fx φ cc nL ow rt nm fr lw KC KS) {x y : Int} {off : Int} (tgt : Nat) (hd : decode cc pc = .ok (.if_icmp .ne off, 3)) (ht : (pc : Int) + off = (tgt : Int)) (hr : (-2147483648 ≤ x ∧ x ≤ 2147483647) ∧ -2147483648 ≤ y ∧ y ≤ 2147483647) (kt : ¬ x = y → Jd φ X kc ks tgt lo st) (kf : x = y → Jd φ X kc ks (pc + 3) lo st) : Jd φ X kc ks pc lo (vi y :: vi x :: st) := by
  obtain ⟨⟨p, l, e, R, s⟩, ⟨m, args, below, meth, c⟩, D, cy, A, Q, X0⟩ := φ
  exact fun H locs ls a b d f => lv_icmp_ne hF.1 hF.2.1 hd ht (fun h => kt (fun q => h ((ja_eq hr.1.1 hr.1.2 hr.2.1 hr.2.2).mpr q)) H locs ls a b d f) (fun h => kf ((ja_eq hr.1.1 hr.1.2 hr.2.1 hr.2.2).mp h) H locs ls a b d f)
theorem j_icmp_lt (hF : Fx φ cc nL ow rt nm fr lw KC KS) {x y : Int} {off : Int} (tgt : Nat) (hd : decode cc pc = .ok (.if_icmp .lt off, 3)) (ht : (pc : Int) + off = (tgt : Int)) (hr : (-2147483648 ≤ x ∧ x ≤ 2147483647) ∧ -2147483648 ≤ y ∧ y ≤ 2147483647) (kt : x < y → Jd φ X kc ks tgt lo st) (kf : y ≤ x → Jd φ X kc ks (pc + 3) lo st) : Jd φ X kc ks pc lo (vi y :: vi x :: st) := by
  obtain ⟨⟨p, l, e, R, s⟩, ⟨m, args, below, meth, c⟩, D, cy, A, Q, X0⟩ := φ
  exact fun H locs ls a b d f => lv_icmp_lt hF.1 hF.2.1 hd ht (fun h => kt ((ja_lt hr.1.1 hr.1.2 hr.2.1 hr.2.2).mp h) H locs ls a b d f) (fun h => kf (Int.not_lt.mp fun q => h ((ja_lt hr.1.1 hr.1.2 hr.2.1 hr.2.2).mpr q)) H locs ls a b d f)
theorem j_icmp_ge (hF : Fx φ cc nL ow rt nm fr lw KC KS) {x y : Int} {off : Int} (tgt : Nat) (hd : decode cc pc = .ok (.if_icmp .ge off, 3)) (ht : (pc : Int) + off = (tgt : Int)) (hr : (-2147483648 ≤ x ∧ x ≤ 2147483647) ∧ -2147483648 ≤ y ∧ y ≤ 2147483647) (kt : y ≤ x → Jd φ X kc ks tgt lo st) (kf : x < y → Jd φ X kc ks (pc + 3) lo st) : Jd φ X kc ks pc lo (vi y :: vi x :: st) := by
  obtain ⟨⟨p, l, e, R, s⟩, ⟨m, args, below, meth, c⟩, D, cy, A, Q, X0⟩ := φ
  exact fun H locs ls a b d f => lv_icmp_ge hF.1 hF.2.1 hd ht (fun h => kt ((ja_le hr.2.1 hr.2.2 hr.1.1 hr.1.2).mp h) H locs ls a b d f) (fun h => kf (Int.not_le.mp fun q => h ((ja_le hr.2.1 hr.2.2 hr.1.1 hr.1.2).mpr q)) H locs ls a b d f)
theorem j_icmp_gt (hF : Fx φ cc nL ow rt nm fr lw KC KS) {x y : Int} {off : Int} (tgt : Nat) (hd : decode cc pc = .ok (.if_icmp .gt off, 3)) (ht : (pc : Int) + off = (tgt : Int)) (hr : (-2147483648 ≤ x ∧ x ≤ 2147483647) ∧ -2147483648 ≤ y ∧ y ≤ 2147483647) (kt : y < x → Jd φ X kc ks tgt lo st) (kf : x ≤ y → Jd φ X kc ks (pc + 3) lo st) : Jd φ X kc ks pc lo (vi y :: vi x :: st) := by
  obtain ⟨⟨p, l, e, R, s⟩, ⟨m, args, below, meth, c⟩, D, cy, A, Q, X0⟩ := φ
  exact fun H locs ls a b d f => lv_icmp_gt hF.1 hF.2.1 hd ht (fun h => kt ((ja_lt hr.2.1 hr.2.2 hr.1.1 hr.1.2).mp h) H locs ls a b d f) (fun h => kf (Int.not_lt.mp fun q => h ((ja_lt hr.2.1 hr.2.2 hr.1.1 hr.1.2).mpr q)) H locs ls a b d f)
theorem j_icmp_le (hF : Fx φ cc nL ow rt nm fr lw KC KS) {x y : Int} {off : Int} (tgt : Nat) (hd : decode cc pc = .ok (.if_icmp .le off, 3)) (ht : (pc : Int) + off = (tgt : Int)) (hr : (-2147483648 ≤ x ∧ x ≤ 2147483647) ∧ -2147483648 ≤ y ∧ y ≤ 2147483647) (kt : x ≤ y → Jd φ X kc ks tgt lo st) (kf : y < x → Jd φ X kc ks (pc + 3) lo st) : Jd φ X kc ks pc lo (vi y :: vi x :: st) := by
  obtain ⟨⟨p, l, e, R, s⟩, ⟨m, args, below, meth, c⟩, D, cy, A, Q, X0⟩ := φ
  exact fun H locs ls a b d f => lv_icmp_le hF.1 hF.2.1 hd ht (fun h => kt ((ja_le hr.1.1 hr.1.2 hr.2.1 hr.2.2).mp h) H locs ls a b d f) (fun h => kf (Int.not_le.mp fun q => h ((ja_le hr.1.1 hr.1.2 hr.2.1 hr.2.2).mpr q)) H locs ls a b d f)
theorem j_if_eq (hF : Fx φ cc nL ow rt nm fr lw KC KS) {x : Int} {off : Int} (tgt : Nat) (hd : decode cc pc = .ok (.ifCond .eq off, 3)) (ht : (pc : Int) + off = (tgt : Int)) (hr : -2147483648 ≤ x ∧ x ≤ 2147483647) (kt : x = 0 → Jd φ X kc ks tgt lo st) (kf : ¬ x = 0 → Jd φ X kc ks (pc + 3) lo st) : Jd φ X kc ks pc lo (vi x :: st) := by
  obtain ⟨⟨p, l, e, R, s⟩, ⟨m, args, below, meth, c⟩, D, cy, A, Q, X0⟩ := φ
  exact fun H locs ls a b d f => lv_if_eq hF.1 hF.2.1 hd ht (fun h => kt ((ja_eq hr.1 hr.2 (by decide) (by decide)).mp h) H locs ls a b d f) (fun h => kf (fun q => h ((ja_eq hr.1 hr.2 (by decide) (by decide)).mpr q)) H locs ls a b d f)
theorem j_if_ne (hF : Fx φ cc nL ow rt nm fr lw KC KS) {x : Int} {off : Int} (tgt : Nat) (hd : decode cc pc = .ok (.ifCond .ne off, 3)) (ht : (pc : Int) + off = (tgt : Int)) (hr : -2147483648 ≤ x ∧ x ≤ 2147483647) (kt : ¬ x = 0 → Jd φ X kc ks tgt lo st) (kf : x = 0 → Jd φ X kc ks (pc + 3) lo st) : Jd φ X kc ks pc lo (vi x :: st) := by
  obtain ⟨⟨p, l, e, R, s⟩, ⟨m, args, below, meth, c⟩, D, cy, A, Q, X0⟩ := φ
  exact fun H locs ls a b d f => lv_if_ne hF.1 hF.2.1 hd ht (fun h => kt (fun q => h ((ja_eq hr.1 hr.2 (by decide) (by decide)).mpr q)) H locs ls a b d f) (fun h => kf ((ja_eq hr.1 hr.2 (by decide) (by decide)).mp h) H locs ls a b d f)
theorem j_if_lt (hF : Fx φ cc nL ow rt nm fr lw KC KS) {x : Int} {off : Int} (tgt : Nat) (hd : decode cc pc = .ok (.ifCond .lt off, 3)) (ht : (pc : Int) + off = (tgt : Int)) (hr : -2147483648 ≤ x ∧ x ≤ 2147483647) (kt : x < 0 → Jd φ X kc ks tgt lo st) (kf : 0 ≤ x → Jd φ X kc ks (pc + 3) lo st) : Jd φ X kc ks pc lo (vi x :: st) := by
  obtain ⟨⟨p, l, e, R, s⟩, ⟨m, args, below, meth, c⟩, D, cy, A, Q, X0⟩ := φ
  exact fun H locs ls a b d f => lv_if_lt hF.1 hF.2.1 hd ht (fun h => kt ((ja_lt hr.1 hr.2 (by decide) (by decide)).mp h) H locs ls a b d f) (fun h => kf (Int.not_lt.mp fun q => h ((ja_lt hr.1 hr.2 (by decide) (by decide)).mpr q)) H locs ls a b d f)
theorem j_if_ge (hF : Fx φ cc nL ow rt nm fr lw KC KS) {x : Int} {off : Int} (tgt : Nat) (hd : decode cc pc = .ok (.ifCond .ge off, 3)) (ht : (pc : Int) + off = (tgt : Int)) (hr : -2147483648 ≤ x ∧ x ≤ 2147483647) (kt : 0 ≤ x → Jd φ X kc ks tgt lo st) (kf : x < 0 → Jd φ X kc ks (pc + 3) lo st) : Jd φ X kc ks pc lo (vi x :: st) := by
  obtain ⟨⟨p, l, e, R, s⟩, ⟨m, args, below, meth, c⟩, D, cy, A, Q, X0⟩ := φ
  exact fun H locs ls a b d f => lv_if_ge hF.1 hF.2.1 hd ht (fun h => kt ((ja_le (by decide) (by decide) hr.1 hr.2).mp h) H locs ls a b d f) (fun h => kf (Int.not_le.mp fun q => h ((ja_le (by decide) (by decide) hr.1 hr.2).mpr q)) H locs ls a b d f)
theorem j_if_gt (hF : Fx φ cc nL ow rt nm fr lw KC KS) {x : Int} {off : Int} (tgt : Nat) (hd : decode cc pc = .ok (.ifCond .gt off, 3)) (ht : (pc : Int) + off = (tgt : Int)) (hr : -2147483648 ≤ x ∧ x ≤ 2147483647) (kt : 0 < x → Jd φ X kc ks tgt lo st) (kf : x ≤ 0 → Jd φ X kc ks (pc + 3) lo st) : Jd φ X kc ks pc lo (vi x :: st) := by
  obtain ⟨⟨p, l, e, R, s⟩, ⟨m, args, below, meth, c⟩, D, cy, A, Q, X0⟩ := φ
  exact fun H locs ls a b d f => lv_if_gt hF.1 hF.2.1 hd ht (fun h => kt ((ja_lt (by decide) (by decide) hr.1 hr.2).mp h) H locs ls a b d f) (fun h => kf (Int.not_lt.mp fun q => h ((ja_lt (by decide) (by decide) hr.1 hr.2).mpr q)) H locs ls a b d f)
theorem j_if_le (hF : Fx φ cc nL ow rt nm fr lw KC KS) {x : Int} {off : Int} (tgt : Nat) (hd : decode cc pc = .ok (.ifCond .le off, 3)) (ht : (pc : Int) + off = (tgt : Int)) (hr : -2147483648 ≤ x ∧ x ≤ 2147483647) (kt : x ≤ 0 → Jd φ X kc ks tgt lo st) (kf : 0 < x → Jd φ X kc ks (pc + 3) lo st) : Jd φ X kc ks pc lo (vi x :: st) := by
  obtain ⟨⟨p, l, e, R, s⟩, ⟨m, args, below, meth, c⟩, D, cy, A, Q, X0⟩ := φ
  exact fun H locs ls a b d f => lv_if_le hF.1 hF.2.1 hd ht (fun h => kt ((ja_le hr.1 hr.2 (by decide) (by decide)).mp h) H locs ls a b d f) (fun h => kf (Int.not_le.mp fun q => h ((ja_le hr.1 hr.2 (by decide) (by decide)).mpr q)) H locs ls a b d f)
end RULES
