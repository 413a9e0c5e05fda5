/-! calls and returns -/
def MS (y : MethodName) (cc : ByteArray) (nL : Nat) (rt : Option FieldType) (n : Nat) : Prop := (Cond.code y cc nL rt ∈ lw_tbl ∧ kw (Cond.code y cc nL rt) = true) ∧ (Cond.initialized y.cls ∈ lw_tbl ∧ kw (Cond.initialized y.cls) = true) ∧ (y.cls ≠ "java/lang/invoke/MethodHandle" ∧ y.cls ≠ "java/lang/invoke/VarHandle" ∧ (parseMethodDescriptor y.desc).map (fun d => d.parameters.length) = some n)
def MV (y : MethodName) (ci : Nat) : Prop := (Cond.instanceMethod y ∈ lw_tbl ∧ kw (Cond.instanceMethod y) = true) ∧ (Cond.selects y.cls y y ∈ lw_tbl ∧ kw (Cond.selects y.cls y y) = true) ∧ ∃ (T : u_T) (N : Nat), vwCl[ci]? = some (y.cls, T, N)
def MT (y : MethodName) : Prop := Cond.static y ∈ lw_tbl ∧ kw (Cond.static y) = true
def MI (y : MethodName) : Prop := y.name = "<init>" ∧ Cond.instanceMethod y ∈ lw_tbl ∧ kw (Cond.instanceMethod y) = true
def LK (ow : String) (idx : Nat) (y : MethodName) : Prop := Cond.methodLink ow idx y ∈ lw_tbl ∧ kw (Cond.methodLink ow idx y) = true
def LN (ow : String) (idx : Nat) (y : MethodName) : Prop := ∃ host, Cond.methodLinkNest ow idx y host ∈ lw_tbl
/-- the claim's room for what a callee needs -/
def RM (fr lw KC KS fr' nL' lw' kc kc' ks ks' : Nat) : Prop := (fr' + 1 ≤ fr ∧ 8 + (nL' + 11) + lw' ≤ lw) ∧ kc + kc' ≤ KC ∧ ks + ks' ≤ KS
section CRULES
variable {φ : Fi} {X : Hp} {kc ks pc : Nat} {lo : List (Option Value)} {st : List Value} {cc : ByteArray} {nL : Nat} {ow : String} {rt : Option FieldType} {nm : String} {fr lw KC KS : Nat}
variable {y : MethodName} {cc' : ByteArray} {nL' n fr' lw' kc' ks' idx b lb ci : Nat} {rt' : Option FieldType} {As rest : List Value} {fs : List Value} {post' : Option Value → Hp → Prop}
theorem ja_good {s : State} {args : Array Value} (hK : Kw s) (h : Cond.code y cc' nL' rt' ∈ lw_tbl ∧ kw (Cond.code y cc' nL' rt') = true) : ∀ w ∈ [Cond.code y cc' nL' rt'], ∀ (a' : Array Value) (U : State), s.WarmedH U.vm → w.before a' U = true := fun w hw a' U hW => by
  rw [List.mem_singleton.mp hw]
  exact kw_moved h.2 hW (hK.at h args)
theorem ja_par (hm : (parseMethodDescriptor y.desc).map (fun d => d.parameters.length) = some n) : ∀ sig, parseMethodDescriptor y.desc = some sig → n = sig.parameters.length := fun sig h => by
  rw [h] at hm
  exact (Option.some.inj hm).symm
/-- what comes behind a call -/
theorem ja_back {p : Program} {l : Launch} {e : Env} {R : Room} {s : State} {m : MethodId} {args : Array Value} {below : List Frame} {meth : Method} {c : Code} {D : va_G} {cy : Nat → ClassId} {A : Nat → Prop} {Q : State → Prop} {X0 : Hp} {H : Heap} {locs : List Loc} {ls : Array Slot} {a : Array Value}
    (hr : va_Run p l e R s m args below meth c H locs kc ks kc' ks' (F0 m pc ls st) rest (Qp D cy X H.size post' a) (AX X H.size)) (hA : ∀ q, s.heap.size ≤ q → A q) (hP : PO D cy X A H) (hE : XE X0 X) (hS : va_S A s.heap H locs) (hl : lh ls lo)
    (kk : ∀ (v : Option Value) (X' : Hp), post' v X' → XE X X' → Jd ((p, l, e, R, s), (m, args, below, meth, c), D, cy, A, Q, X0) X' (kc + kc') (ks + ks') (pc + 3) lo (v.toList ++ rest)) : W p l e R s m args below meth c H locs kc ks Q (F0 m pc ls st) := by
  intro T hT Xs
  obtain ⟨v, st₀, t, T', L, h0, X', hL, e1, e2, ⟨⟨v', X1, hv, hp, hE1, hP1⟩, hz, hk⟩, stp⟩ := hr T hT Xs
  cases hv
  rw [h0] at hz hk
  have hAA : ∀ q, AX X H.size q → A q := fun q h => by
    rcases h with ⟨z, h⟩ | h
    · exact hP.inA h
    · exact hA q (Nat.le_trans hS.1 h)
  have hS1 : va_S A s.heap T'.heap (locs ++ L) := by
    refine ⟨Nat.le_trans hS.1 (by rw [e1]; exact hz), fun q h1 h2 => ?_, fun q hq => ?_⟩
    · rw [e1, hk q (Nat.lt_of_lt_of_le h1 hS.1) (fun z => h2 (hAA q z))]
      exact hS.2.1 q h1 h2
    · rcases List.mem_append.mp hq with h | h
      · exact hS.2.2 q h
      · exact hAA _ (hL q h)
  obtain ⟨t2, a1, b1⟩ := kk v X1 hp hE1 T'.heap (locs ++ L) ls (by rw [e1]; exact hP1.weaken hAA) (hE.trans hE1) hS1 hl T' rfl X'
  exact ⟨t2, stp t2 a1, b1⟩
theorem ja_pre {D : va_G} {cy : Nat → ClassId} {A : Nat → Prop} {s : State} {H : Heap} (hK : Kw s) (hKK : va_K D vwCl (ja_tys cy) s) (hP : PO D cy X A H) (av : List Value) : ∀ U : State, U.heap = H → s.WarmedH U.vm → va_Pc av (Pp D cy X H.size) av.toArray U := fun U hU hW =>
  ⟨rfl, by rw [hU], hK.moved hW, va_K.moved hW.alike hKK, by rw [hU]; exact hP.weaken (fun _ _ => trivial)⟩
theorem j_callV (hF : Fx φ cc nL ow rt nm fr lw KC KS) (hC : Ct y cc' nL' rt' fr' lw' (.ref b :: As) X kc' ks' post') (hm : MS y cc' nL' rt' n) (hv : MV y ci) (hk : LK ow idx y) (hd : decode cc pc = .ok (.invokevirtual idx, 3)) (hb : X b = some (lb, ob ci fs)) (hst : st = As.reverse ++ .ref b :: rest) (hn : As.length = n) (hnL : lo.length = nL) (hc : (rest.map fun v => v.category).sum ≤ 8) (hR : RM fr lw KC KS fr' nL' lw' kc kc' ks ks')
    (kk : ∀ (v : Option Value) (X' : Hp), post' v X' → XE X X' → Jd φ X' (kc + kc') (ks + ks') (pc + 3) lo (v.toList ++ rest)) : Jd φ X kc ks pc lo st := by
  obtain ⟨⟨p, l, e, R, s⟩, ⟨m, args, below, meth, c⟩, D, cy, A, Q, X0⟩ := φ
  obtain ⟨f1, f2, f3, f4, f5, f6, f7, f8, f9, f10, f11⟩ := hF
  obtain ⟨v1, v2, T, N, v3⟩ := hv
  intro H locs ls hP hE hS hl
  obtain ⟨L, q, h1, h2, h3, h4⟩ := hP.get hb
  subst f11
  refine ja_back (va_runV (C := y.cls) (Ts := []) (n := n) (rest := rest) ⟨f1, f2, f3, f4, fun _ h => by cases h⟩ (hC l D cy H.size) ⟨⟨rfl, rfl, hR.1.1, hR.1.2, ja_good f5 hm.1 (args := args), List.mem_singleton.mpr rfl, f5.at hm.1 _, f5.at hm.2.1 _, ⟨hm.2.2.1, hm.2.2.2.1⟩, ja_par hm.2.2.2.2, f5.at hk _⟩, f5.at v1 _, f5.at v2 _⟩ ⟨Pp.blind, va_recv f9 h2 v3 h4, ja_pre f5 f9 hP _⟩ rfl hn (by show ls.size = nL; rw [hl.1]; exact hnL) hst (lv_room hc) hd ⟨hR.2.1, hR.2.2⟩) f10 hP hE hS hl kk
theorem j_callS (hF : Fx φ cc nL ow rt nm fr lw KC KS) (hC : Ct y cc' nL' rt' fr' lw' As X kc' ks' post') (hm : MS y cc' nL' rt' n) (hv : MT y) (hk : LK ow idx y) (hd : decode cc pc = .ok (.invokestatic idx, 3)) (hst : st = As.reverse ++ rest) (hn : As.length = n) (hnL : lo.length = nL) (hc : (rest.map fun v => v.category).sum ≤ 8) (hR : RM fr lw KC KS fr' nL' lw' kc kc' ks ks')
    (kk : ∀ (v : Option Value) (X' : Hp), post' v X' → XE X X' → Jd φ X' (kc + kc') (ks + ks') (pc + 3) lo (v.toList ++ rest)) : Jd φ X kc ks pc lo st := by
  obtain ⟨⟨p, l, e, R, s⟩, ⟨m, args, below, meth, c⟩, D, cy, A, Q, X0⟩ := φ
  obtain ⟨f1, f2, f3, f4, f5, f6, f7, f8, f9, f10, f11⟩ := hF
  intro H locs ls hP hE hS hl
  subst f11
  refine ja_back (va_runS (Ts := []) (n := n) (rest := rest) ⟨f1, f2, f3, f4, fun _ h => by cases h⟩ (hC l D cy H.size) ⟨⟨rfl, rfl, hR.1.1, hR.1.2, ja_good f5 hm.1 (args := args), List.mem_singleton.mpr rfl, f5.at hm.1 _, f5.at hm.2.1 _, ⟨hm.2.2.1, hm.2.2.2.1⟩, ja_par hm.2.2.2.2, f5.at hk _⟩, f5.at hv _⟩ ⟨Pp.blind, ja_pre f5 f9 hP _⟩ rfl hn (by show ls.size = nL; rw [hl.1]; exact hnL) hst (lv_room hc) hd ⟨hR.2.1, hR.2.2⟩) f10 hP hE hS hl kk
theorem j_callSN (hF : Fx φ cc nL ow rt nm fr lw KC KS) (hC : Ct y cc' nL' rt' fr' lw' As X kc' ks' post') (hm : MS y cc' nL' rt' n) (hv : MT y) (hk : LN ow idx y) (hd : decode cc pc = .ok (.invokestatic idx, 3)) (hst : st = As.reverse ++ rest) (hn : As.length = n) (hnL : lo.length = nL) (hc : (rest.map fun v => v.category).sum ≤ 8) (hR : RM fr lw KC KS fr' nL' lw' kc kc' ks ks')
    (kk : ∀ (v : Option Value) (X' : Hp), post' v X' → XE X X' → Jd φ X' (kc + kc') (ks + ks') (pc + 3) lo (v.toList ++ rest)) : Jd φ X kc ks pc lo st := by
  obtain ⟨⟨p, l, e, R, s⟩, ⟨m, args, below, meth, c⟩, D, cy, A, Q, X0⟩ := φ
  obtain ⟨f1, f2, f3, f4, f5, f6, f7, f8, f9, f10, f11⟩ := hF
  obtain ⟨host, hk⟩ := hk
  intro H locs ls hP hE hS hl
  subst f11
  refine ja_back (va_runSN (Ts := []) (host := host) (n := n) (rest := rest) ⟨f1, f2, f3, f4, fun _ h => by cases h⟩ (hC l D cy H.size) ⟨⟨⟨rfl, rfl, hR.1.1, hR.1.2, ja_good f5 hm.1 (args := args), List.mem_singleton.mpr rfl⟩, f5.at hm.1 _, f5.at hm.2.1 _, ⟨hm.2.2.1, hm.2.2.2.1⟩, ja_par hm.2.2.2.2, f5.at ⟨hk, rfl⟩ _⟩, f5.at hv _, trivial⟩ ⟨Pp.blind, ja_pre f5 f9 hP _⟩ rfl hn (by show ls.size = nL; rw [hl.1]; exact hnL) hst (lv_room hc) hd ⟨hR.2.1, hR.2.2⟩) f10 hP hE hS hl kk
theorem j_callI (hF : Fx φ cc nL ow rt nm fr lw KC KS) (hC : Ct y cc' nL' none fr' lw' (.ref b :: As) X kc' ks' post') (hm : MS y cc' nL' none n) (hv : MI y) (hk : LK ow idx y) (hd : decode cc pc = .ok (.invokespecial idx, 3)) (hst : st = As.reverse ++ .ref b :: rest) (hn : As.length = n) (hnL : lo.length = nL) (hc : (rest.map fun v => v.category).sum ≤ 8) (hR : RM fr lw KC KS fr' nL' lw' kc kc' ks ks')
    (kk : ∀ (v : Option Value) (X' : Hp), post' v X' → XE X X' → Jd φ X' (kc + kc') (ks + ks') (pc + 3) lo (v.toList ++ rest)) : Jd φ X kc ks pc lo st := by
  obtain ⟨⟨p, l, e, R, s⟩, ⟨m, args, below, meth, c⟩, D, cy, A, Q, X0⟩ := φ
  obtain ⟨f1, f2, f3, f4, f5, f6, f7, f8, f9, f10, f11⟩ := hF
  intro H locs ls hP hE hS hl
  subst f11
  refine ja_back (va_runI (Ts := []) (n := n) (rest := rest) ⟨f1, f2, f3, f4, fun _ h => by cases h⟩ (hC l D cy H.size) ⟨⟨rfl, rfl, hR.1.1, hR.1.2, ja_good f5 hm.1 (args := args), List.mem_singleton.mpr rfl, f5.at hm.1 _, f5.at hm.2.1 _, ⟨hm.2.2.1, hm.2.2.2.1⟩, ja_par hm.2.2.2.2, f5.at hk _⟩, hv.1, f5.at hv.2 _⟩ ⟨Pp.blind, ja_pre f5 f9 hP _⟩ rfl hn (by show ls.size = nL; rw [hl.1]; exact hnL) hst (lv_room hc) hd ⟨hR.2.1, hR.2.2⟩) f10 hP hE hS hl kk
theorem j_callIN (hF : Fx φ cc nL ow rt nm fr lw KC KS) (hC : Ct y cc' nL' none fr' lw' (.ref b :: As) X kc' ks' post') (hm : MS y cc' nL' none n) (hv : MI y) (hk : LN ow idx y) (hd : decode cc pc = .ok (.invokespecial idx, 3)) (hst : st = As.reverse ++ .ref b :: rest) (hn : As.length = n) (hnL : lo.length = nL) (hc : (rest.map fun v => v.category).sum ≤ 8) (hR : RM fr lw KC KS fr' nL' lw' kc kc' ks ks')
    (kk : ∀ (v : Option Value) (X' : Hp), post' v X' → XE X X' → Jd φ X' (kc + kc') (ks + ks') (pc + 3) lo (v.toList ++ rest)) : Jd φ X kc ks pc lo st := by
  obtain ⟨⟨p, l, e, R, s⟩, ⟨m, args, below, meth, c⟩, D, cy, A, Q, X0⟩ := φ
  obtain ⟨f1, f2, f3, f4, f5, f6, f7, f8, f9, f10, f11⟩ := hF
  obtain ⟨host, hk⟩ := hk
  intro H locs ls hP hE hS hl
  subst f11
  refine ja_back (va_runIN (Ts := []) (host := host) (n := n) (rest := rest) ⟨f1, f2, f3, f4, fun _ h => by cases h⟩ (hC l D cy H.size) ⟨⟨⟨rfl, rfl, hR.1.1, hR.1.2, ja_good f5 hm.1 (args := args), List.mem_singleton.mpr rfl⟩, f5.at hm.1 _, f5.at hm.2.1 _, ⟨hm.2.2.1, hm.2.2.2.1⟩, ja_par hm.2.2.2.2, f5.at ⟨hk, rfl⟩ _⟩, hv.1, f5.at hv.2 _⟩ ⟨Pp.blind, ja_pre f5 f9 hP _⟩ rfl hn (by show ls.size = nL; rw [hl.1]; exact hnL) hst (lv_room hc) hd ⟨hR.2.1, hR.2.2⟩) f10 hP hE hS hl kk
theorem j_iret (hF : Fx φ cc nL ow (some .int) nm fr lw KC KS) {X0 : Hp} {post : Option Value → Hp → Prop} {KC' KS' : Nat} (hR : Rx φ X0 KC' KS' post) {x : Int32} (hd : decode cc pc = .ok (.ireturn, 1)) (h1 : kc ≤ KC') (h2 : ks ≤ KS') (hp : post (some (.int x)) X) : Jd φ X kc ks pc lo [.int x] := by
  obtain ⟨⟨p, l, e, R, s⟩, ⟨m, args, below, meth, c⟩, D, cy, A, Q, X1⟩ := φ
  obtain ⟨f1, f2, f3, f4, f5, f6, f7, f8, f9, f10, f11⟩ := hF
  obtain ⟨rfl, rfl, rfl⟩ := hR
  intro H locs ls hP hE hS hl
  refine W.widen h1 h2 (W.iret f1 f2 f7 (fun t ht hW => ⟨⟨_, X, rfl, hp, hE, by rw [ht]; exact hP⟩, hS.F ht⟩) hS.2.2 hd f6)
theorem j_zret (hF : Fx φ cc nL ow (some .boolean) nm fr lw KC KS) {X0 : Hp} {post : Option Value → Hp → Prop} {KC' KS' : Nat} (hR : Rx φ X0 KC' KS' post) {x : Int} (hx : x = 0 ∨ x = 1) (hd : decode cc pc = .ok (.ireturn, 1)) (h1 : kc ≤ KC') (h2 : ks ≤ KS') (hp : post (some (vi x)) X) : Jd φ X kc ks pc lo [vi x] := by
  obtain ⟨⟨p, l, e, R, s⟩, ⟨m, args, below, meth, c⟩, D, cy, A, Q, X1⟩ := φ
  obtain ⟨f1, f2, f3, f4, f5, f6, f7, f8, f9, f10, f11⟩ := hF
  obtain ⟨rfl, rfl, rfl⟩ := hR
  intro H locs ls hP hE hS hl
  refine W.widen h1 h2 (W.zret (ty := .boolean) f1 f2 f7 (by rcases hx with rfl | rfl <;> decide) (fun t ht hW => ⟨⟨_, X, rfl, hp, hE, by rw [ht]; exact hP⟩, hS.F ht⟩) hS.2.2 hd f6)
theorem j_vret (hF : Fx φ cc nL ow none nm fr lw KC KS) {X0 : Hp} {post : Option Value → Hp → Prop} {KC' KS' : Nat} (hR : Rx φ X0 KC' KS' post) (hd : decode cc pc = .ok (.return_, 1)) (h1 : kc ≤ KC') (h2 : ks ≤ KS') (hp : post none X) : Jd φ X kc ks pc lo [] := by
  obtain ⟨⟨p, l, e, R, s⟩, ⟨m, args, below, meth, c⟩, D, cy, A, Q, X1⟩ := φ
  obtain ⟨f1, f2, f3, f4, f5, f6, f7, f8, f9, f10, f11⟩ := hF
  obtain ⟨rfl, rfl, rfl⟩ := hR
  intro H locs ls hP hE hS hl
  refine W.widen h1 h2 (W.vret f1 f2 f7 (fun t ht hW => ⟨⟨_, X, rfl, hp, hE, by rw [ht]; exact hP⟩, hS.F ht⟩) hS.2.2 hd f6)
theorem j_lret (hF : Fx φ cc nL ow (some .long) nm fr lw KC KS) {X0 : Hp} {post : Option Value → Hp → Prop} {KC' KS' : Nat} (hR : Rx φ X0 KC' KS' post) {x : Int64} (hd : decode cc pc = .ok (.lreturn, 1)) (h1 : kc ≤ KC') (h2 : ks ≤ KS') (hp : post (some (.long x)) X) : Jd φ X kc ks pc lo [.long x] := by
  obtain ⟨⟨p, l, e, R, s⟩, ⟨m, args, below, meth, c⟩, D, cy, A, Q, X1⟩ := φ
  obtain ⟨f1, f2, f3, f4, f5, f6, f7, f8, f9, f10, f11⟩ := hF
  obtain ⟨rfl, rfl, rfl⟩ := hR
  intro H locs ls hP hE hS hl
  refine W.widen h1 h2 (W.lret f1 f2 f7 (fun t ht hW => ⟨⟨_, X, rfl, hp, hE, by rw [ht]; exact hP⟩, hS.F ht⟩) hS.2.2 hd f6)
theorem j_aret {ty : FieldType} (hF : Fx φ cc nL ow (some (.array ty)) nm fr lw KC KS) {X0 : Hp} {post : Option Value → Hp → Prop} {KC' KS' : Nat} (hR : Rx φ X0 KC' KS' post) {x : Nat} (hd : decode cc pc = .ok (.areturn, 1)) (h1 : kc ≤ KC') (h2 : ks ≤ KS') (hp : post (some (.ref x)) X) : Jd φ X kc ks pc lo [.ref x] := by
  obtain ⟨⟨p, l, e, R, s⟩, ⟨m, args, below, meth, c⟩, D, cy, A, Q, X1⟩ := φ
  obtain ⟨f1, f2, f3, f4, f5, f6, f7, f8, f9, f10, f11⟩ := hF
  obtain ⟨rfl, rfl, rfl⟩ := hR
  intro H locs ls hP hE hS hl
  refine W.widen h1 h2 (W.aret f1 f2 f7 (Or.inr ⟨_, rfl⟩) (Or.inr ⟨_, rfl⟩) (fun t ht hW => ⟨⟨_, X, rfl, hp, hE, by rw [ht]; exact hP⟩, hS.F ht⟩) hS.2.2 hd f6)
theorem j_obj (hF : Fx φ cc nL ow rt nm fr lw KC KS) {a : Nat} (hk : LK ow idx objectInit) (h1 : Cond.instanceMethod objectInit ∈ lw_tbl) (h2 : Cond.code objectInit ⟨#[0xb1]⟩ 1 none ∈ lw_tbl) (hd : decode cc pc = .ok (.invokespecial idx, 3)) (hnL : lo.length = nL) (hc : (st.map fun v => v.category).sum ≤ 8) (hfr : 1 ≤ fr) (hlw : 20 ≤ lw) (kk : Jd φ X kc ks (pc + 3) lo st) : Jd φ X kc ks pc lo (.ref a :: st) := by
  obtain ⟨⟨p, l, e, R, s⟩, ⟨m, args, below, meth, c⟩, D, cy, A, Q, X1⟩ := φ
  obtain ⟨f1, f2, f3, f4, f5, f6, f7, f8, f9, f10, f11⟩ := hF
  intro H locs ls hP hE hS hl
  subst f11
  exact W.objInit f1 f2 f4 (f5.at hk _) (f5.at ⟨h1, rfl⟩ _) (f5.at ⟨h2, rfl⟩ _) rfl (by rw [f3]; show ls.size = nL; rw [hl.1]; exact hnL) rfl hd hfr (by show 2 * 0 + _ + 12 ≤ lw; omega) (kk H locs ls hP hE hS hl)
end CRULES
/-- a stretch copied -/
def fc (f g : Int → Int) (sp dp n : Int) : Int → Int := fun j => if dp ≤ j ∧ j < dp + n then f (sp + (j - dp)) else g j
theorem j_copy {φ : Fi} {X : Hp} {kc ks pc : Nat} {lo : List (Option Value)} {st : List Value} {cc : ByteArray} {nL : Nat} {ow : String} {rt : Option FieldType} {nm : String} {fr lw KC KS : Nat} (hF : Fx φ cc nL ow rt nm fr lw KC KS) {idx a0 a lb0 lb n0 n1 : Nat} {f g : Int → Int} {sp dp n : Int} (hk : LK ow idx arraycopyName) (hn : Cond.native arraycopyName ∈ lw_tbl) (hst : Cond.static arraycopyName ∈ lw_tbl) (hin : Cond.initialized "java/lang/System" ∈ lw_tbl) (hx0 : X a0 = some (lb0, ia 0 n0 f)) (hx : X a = some (lb, ia 0 n1 g)) (hd : decode cc pc = .ok (.invokestatic idx, 3))
    (hr : (0 ≤ sp ∧ 0 ≤ dp ∧ 0 ≤ n) ∧ sp + n ≤ n0 ∧ dp + n ≤ n1) (hnL : lo.length = nL) (hc : (st.map fun v => v.category).sum ≤ 8) (hR : 1 ≤ fr ∧ 30 ≤ lw) (kk : Jd φ (va_up X a (some (lb, ia 0 n1 (fc f g sp dp n)))) kc ks (pc + 3) lo st) : Jd φ X kc ks pc lo (vi n :: vi dp :: .ref a :: vi sp :: .ref a0 :: st) := by
  obtain ⟨⟨p, l, e, R, s⟩, ⟨m, args, below, meth, c⟩, D, cy, A, Q, X0⟩ := φ
  obtain ⟨f1, f2, f3, f4, f5, f6, f7, f8, f9, f10, f11⟩ := hF
  subst f11
  intro H locs ls hP hE hS hl
  obtain ⟨L, q, h1, h2, h3, h4⟩ := hP.get hx
  obtain ⟨q0, hq0⟩ := va_pl_get (X := []) (f := ja_xf cy X) ((h1 a0).mpr ⟨_, hx0⟩)
  rw [ja_xf_at hx0] at hq0
  obtain ⟨hn0, hr0⟩ := hP.2.1 a0 lb0 0 n0 f hx0
  obtain ⟨hn1, hr1⟩ := hP.2.1 a lb 0 n1 g hx
  have e1 := ja_C (z := sp) (by omega) (by omega)
  have e2 := ja_C (z := dp) (by omega) (by omega)
  have e3 := ja_C (z := n) (by omega) (by omega)
  refine va_copyi (ty := .int) f1 f2 (by rw [f3, hl.1, hnL]) f4 (f5.at hk _) (f5.at ⟨hn, rfl⟩ _) (f5.at ⟨hst, rfl⟩ _) (f5.at ⟨hin, rfl⟩ _) f9 h2 h3 hS q0 q 0 0 hq0 h4 (ja_tys_at cy (by omega)) (ja_tys_at cy (by omega)) rfl (ja_nn (by omega) (by omega)) (ja_nn (by omega) (by omega)) (ja_nn (by omega) (by omega)) (by show _ ≤ n0; omega) (by show _ ≤ n1; omega) (fun i _ => rfl) hR.1 (by show _ + (7 + 11) ≤ lw; omega) hd (fun H1 locs1 hP1 hD1 hS1 => ?_)
  have ef : va_cpy (fun j : Nat => Int32.ofInt (f j)) (fun j : Nat => Int32.ofInt (g j)) (Int32.ofInt sp).toNatClampNeg (Int32.ofInt dp).toNatClampNeg (Int32.ofInt n).toNatClampNeg = fun j : Nat => Int32.ofInt (fc f g sp dp n j) := by
    funext j
    by_cases hj : dp ≤ (j : Int) ∧ (j : Int) < dp + n
    · rw [pk_cpy_in (by omega) (by omega)]
      simp only [fc, hj, and_self, if_true]
      congr 2
      omega
    · rw [pk_cpy_out (by omega)]
      simp only [fc, hj, if_false]
  have hP1 : va_P D vwCl (([] ++ va_pl L (ja_xf cy X)).set q (a, ja_rl cy (ia 0 n1 (fc f g sp dp n)))) H1 := by
    show va_P D vwCl (([] ++ va_pl L (ja_xf cy X)).set q (a, .inl (cy 0, n1, .inl (fun j : Nat => Int32.ofInt (fc f g sp dp n j))))) H1
    rw [← ef]; exact hP1
  have hD1 : va_D A (([] ++ va_pl L (ja_xf cy X)).set q (a, ja_rl cy (ia 0 n1 (fc f g sp dp n)))) := by
    show va_D A (([] ++ va_pl L (ja_xf cy X)).set q (a, .inl (cy 0, n1, .inl (fun j : Nat => Int32.ofInt (fc f g sp dp n j)))))
    rw [← ef]; exact hD1
  refine kk H1 locs1 ls (PO.set (q := ia 0 n1 g) h1 h3 hx h4 hP1 hD1 (ja_ok_set hP.2 (fun t n' f' h => ?_) (fun _ _ _ h => by cases h))) (hE.trans (XE.set hx)) hS1 hl
  cases h
  refine ⟨hn1, fun j a1 a2 => ?_⟩
  by_cases hj : dp ≤ j ∧ j < dp + n
  · simp only [fc, hj, and_self, if_true]
    exact hr0 _ (by omega) (by omega)
  · simp only [fc, hj, if_false]
    exact hr1 j a1 a2
noncomputable def bz (p : Prop) : Int := @ite Int p (Classical.propDecidable p) 1 0
theorem bz_t {p : Prop} (h : p) : bz p = 1 := if_pos h
theorem bz_f {p : Prop} (h : ¬ p) : bz p = 0 := if_neg h
theorem bz_01 (p : Prop) : bz p = 0 ∨ bz p = 1 := by
  by_cases h : p
  · exact Or.inr (bz_t h)
  · exact Or.inl (bz_f h)
theorem bz_iff {p q : Prop} (h : p ↔ q) : bz p = bz q := by rw [propext h]
theorem bz_1 {p : Prop} (h : bz p = 1) : p := Classical.byContradiction fun q => by rw [bz_f q] at h; omega
theorem bz_0 {p : Prop} (h : bz p = 0) : ¬ p := fun q => by rw [bz_t q] at h; omega
section BRULES
variable {φ : Fi} {X : Hp} {kc ks pc : Nat} {lo : List (Option Value)} {st : List Value} {cc : ByteArray} {nL : Nat} {ow : String} {rt : Option FieldType} {nm : String} {fr lw KC KS : Nat}
theorem j_b_eq (hF : Fx φ cc nL ow rt nm fr lw KC KS) {x : Prop} {off : Int} (tgt : Nat) (hd : decode cc pc = .ok (.ifCond .eq off, 3)) (ht : (pc : Int) + off = (tgt : Int)) (kt : ¬ x → Jd φ X kc ks tgt lo st) (kf : x → Jd φ X kc ks (pc + 3) lo st) : Jd φ X kc ks pc lo (vi (bz x) :: st) :=
  j_if_eq hF tgt hd ht (by rcases bz_01 x with h | h <;> rw [h] <;> decide) (fun h => kt (bz_0 h)) (fun h => kf (by rcases bz_01 x with g | g; exact absurd g h; exact bz_1 g))
theorem j_b_ne (hF : Fx φ cc nL ow rt nm fr lw KC KS) {x : Prop} {off : Int} (tgt : Nat) (hd : decode cc pc = .ok (.ifCond .ne off, 3)) (ht : (pc : Int) + off = (tgt : Int)) (kt : x → Jd φ X kc ks tgt lo st) (kf : ¬ x → Jd φ X kc ks (pc + 3) lo st) : Jd φ X kc ks pc lo (vi (bz x) :: st) :=
  j_if_ne hF tgt hd ht (by rcases bz_01 x with h | h <;> rw [h] <;> decide) (fun h => kt (by rcases bz_01 x with g | g; exact absurd g h; exact bz_1 g)) (fun h => kf (bz_0 h))
end BRULES
