/-! costs that the end tells -/
def hsz (H : Heap) : Nat := H.foldl (fun n c => n + c.slots.size) 0
section VCOST
variable {p : Program} {l : Launch} {e : Env} {R : Room} {s : State} {m : MethodId} {args : Array Value} {below : List Frame} {meth : Method} {c : Code} {T : State} {H : Heap} {locs : List Loc} {cells slots : Nat} {Q : State → Prop} {g : JFrame}
theorem hsz_used (Z : Stand p l e R s m args below meth c T locs cells slots) : T.slotsUsed = hsz T.heap := by
  have h := Z.book
  unfold State.slotsTrue at h
  exact eq_of_beq h
theorem hsz_start (Z : Stand p l e R s m args below meth c T locs cells slots) : s.slotsUsed = hsz s.heap := by
  have h := Z.room
  simp only [State.hasRoom, Bool.and_eq_true] at h
  have h2 := h.2
  unfold State.slotsTrue at h2
  exact eq_of_beq h2
theorem hsz_le (Z : Stand p l e R s m args below meth c T locs cells slots) : hsz T.heap ≤ hsz s.heap + slots := by
  have h1 := Z.used
  rw [hsz_used Z, hsz_start Z] at h1
  exact h1
theorem wv_know (k : H.size ≤ s.heap.size + cells → hsz H ≤ hsz s.heap + slots → W p l e R s m args below meth c H locs cells slots Q g) : W p l e R s m args below meth c H locs cells slots Q g := fun T hT Z =>
  k (by rw [← hT]; exact Z.heapSize) (by rw [← hT]; exact hsz_le Z) T hT Z
theorem wv_narrow {k n : Nat} (h1 : H.size ≤ s.heap.size + k) (h2 : hsz H ≤ hsz s.heap + n) (kk : W p l e R s m args below meth c H locs k n Q g) : W p l e R s m args below meth c H locs cells slots Q g := fun T hT Z => by
  refine kk T hT { Z with same := ⟨Z.same.1, Z.same.2.1, ?_, Z.same.2.2.2.1, ?_, Z.same.2.2.2.2.2⟩ }
  · show T.heap.size ≤ s.heap.size + k
    rw [hT]; exact h1
  · have e1 : T.slotsUsed = s.slotsUsed + _ := Z.same.2.2.2.1
    rw [hsz_used Z, hsz_start Z, hT] at e1
    omega
end VCOST
def Qv (D : va_G) (cy : Nat → ClassId) (X : Hp) (sz : Nat) (post : Option Value → Hp → Nat → Nat → Prop) : Array Value → State → Outcome → State → Prop := fun _ st oc t => (∃ (v : Option Value) (X' : Hp) (k n : Nat), oc = .returned v ∧ post v X' k n ∧ XE X X' ∧ PO D cy X' (AX X sz) t.heap ∧ t.heap.size ≤ st.heap.size + k ∧ hsz t.heap ≤ hsz st.heap + n) ∧ va_F (AX X sz) st t
/-- a contract whose end tells what it has cost, within kc and ks -/
def Cv (y : MethodName) (cc : ByteArray) (nL : Nat) (rt : Option FieldType) (fr lw : Nat) (av : List Value) (X : Hp) (kc ks : Nat) (post : Option Value → Hp → Nat → Nat → Prop) : Prop :=
  ∀ (l : Launch) (D : va_G) (cy : Nat → ClassId) (sz : Nat), Met l y [.code y cc nL rt] { frames := fr, cells := kc, slots := ks, locals := lw } (va_Pc av (Pp D cy X sz)) (Qv D cy X sz post) kc ks (AX X sz)
def Rv (φ : Fi) (X : Hp) (kc ks : Nat) (post : Option Value → Hp → Nat → Nat → Prop) : Prop := match φ with
  | ((_, _, _, _, s), (_, args, below, _, _), D, cy, A, Q, X0) => Q = MQ below (Qv D cy X s.heap.size post) args s kc ks (AX X s.heap.size) ∧ A = AX X s.heap.size ∧ X0 = X
theorem Cv.of {y : MethodName} {cc : ByteArray} {nL : Nat} {rt : Option FieldType} {fr lw : Nat} {av : List Value} {X : Hp} {kc ks : Nat} {post : Option Value → Hp → Nat → Nat → Prop} (hs : plainName y.cls = true) (lo : List (Option Value)) (hlo : eo av ++ List.replicate (nL - (eo av).length) none = lo) (hle : (eo av).length ≤ nL)
    (body : ∀ φ : Fi, Fx φ cc nL y.cls rt y.name fr lw kc ks → Rv φ X kc ks post → Jd φ X 0 0 0 lo []) : Cv y cc nL rt fr lw av X kc ks post := by
  intro l D cy sz
  refine Met.ofW (cc := cc) (maxL := nL) (ret := rt) hs rfl ?_
  intro p e s m args below meth c s₁ B hml hv
  obtain ⟨rfl, rfl, hKw, hK, hP⟩ := hv
  rw [lg_entry_eq]
  exact body ((p, l, e, _, s), (m, av.toArray, below, meth, c), D, cy, AX X s.heap.size, _, X) ⟨B.exec, B.bytes, hml, findClass_of_methodNamed B.named, hKw, B.notSynchronized, B.returns, (name_of_methodNamed B.named B.method).1, hK, fun q h => Or.inr h, rfl⟩ ⟨rfl, rfl, rfl⟩ s.heap [] _ (hP.self (fun a q h => Or.inl ⟨q, h⟩)) (XE.refl X) va_S.rf (hlo ▸ lh.entry av hle)
section VRULES
variable {φ : Fi} {X : Hp} {kc ks pc : Nat} {lo : List (Option Value)} {st : List Value} {cc : ByteArray} {nL : Nat} {ow : String} {rt : Option FieldType} {nm : String} {fr lw KC KS : Nat}
variable {y : MethodName} {cc' : ByteArray} {nL' n fr' lw' kc' ks' idx b lb ci : Nat} {rt' : Option FieldType} {As rest : List Value} {fs : List Value} {pov : Option Value → Hp → Nat → Nat → Prop}
theorem jv_back {p : Program} {l : Launch} {e : Env} {R : Room} {s : State} {m : MethodId} {args : Array Value} {below : List Frame} {meth : Method} {c : Code} {D : va_G} {cy : Nat → ClassId} {A : Nat → Prop} {Q : State → Prop} {X0 : Hp} {H : Heap} {locs : List Loc} {ls : Array Slot} {a : Array Value}
    (hr : va_Run p l e R s m args below meth c H locs kc ks kc' ks' (F0 m pc ls st) rest (Qv D cy X H.size pov a) (AX X H.size)) (hA : ∀ q, s.heap.size ≤ q → A q) (hP : PO D cy X A H) (hE : XE X0 X) (hS : va_S A s.heap H locs) (hl : lh ls lo)
    (kk : ∀ (v : Option Value) (X' : Hp) (k n : Nat), pov v X' k n → XE X X' → Jd ((p, l, e, R, s), (m, args, below, meth, c), D, cy, A, Q, X0) X' (kc + k) (ks + n) (pc + 3) lo (v.toList ++ rest)) : W p l e R s m args below meth c H locs kc ks Q (F0 m pc ls st) := by
  intro T hT Z
  obtain ⟨v, st₀, t, T', L, h0, X', hL, e1, e2, ⟨⟨v', X1, k, n, hv, hp, hE1, hP1, hsz1, hsz2⟩, hz, hk⟩, stp⟩ := hr T hT Z
  cases hv
  rw [h0] at hz hk
  have hAA : ∀ q, AX X H.size q → A q := fun q h => by
    rcases h with ⟨z, h⟩ | h
    · exact hP.inA h
    · exact hA q (Nat.le_trans hS.1 h)
  have hS1 : va_S A s.heap T'.heap (locs ++ L) := by
    refine ⟨Nat.le_trans hS.1 (by rw [e1]; exact hz), fun q h1 h2 => ?_, fun q hq => ?_⟩
    · rw [e1, hk q (Nat.lt_of_lt_of_le h1 hS.1) (fun z => h2 (hAA q z))]
      exact hS.2.1 q h1 h2
    · rcases List.mem_append.mp hq with h | h
      · exact hS.2.2 q h
      · exact hAA _ (hL q h)
  have q1 := Z.heapSize
  have q2 := hsz_le Z
  rw [hT] at q1 q2
  rw [h0, ← e1] at hsz1 hsz2
  obtain ⟨t2, a1, b1⟩ := wv_narrow (k := kc + k) (n := ks + n) (by omega) (by omega) (kk v X1 k n hp hE1 T'.heap (locs ++ L) ls (by rw [e1]; exact hP1.weaken hAA) (hE.trans hE1) hS1 hl) T' rfl X'
  exact ⟨t2, stp t2 a1, b1⟩
theorem j_callVv (hF : Fx φ cc nL ow rt nm fr lw KC KS) (hC : Cv y cc' nL' rt' fr' lw' (.ref b :: As) X kc' ks' pov) (hm : MS y cc' nL' rt' n) (hv : MV y ci) (hk : LK ow idx y) (hd : decode cc pc = .ok (.invokevirtual idx, 3)) (hb : X b = some (lb, ob ci fs)) (hst : st = As.reverse ++ .ref b :: rest) (hn : As.length = n) (hnL : lo.length = nL) (hc : (rest.map fun v => v.category).sum ≤ 8) (hR : RM fr lw KC KS fr' nL' lw' kc kc' ks ks')
    (kk : ∀ (v : Option Value) (X' : Hp) (k n : Nat), pov v X' k n → XE X X' → Jd φ X' (kc + k) (ks + n) (pc + 3) lo (v.toList ++ rest)) : Jd φ X kc ks pc lo st := by
  obtain ⟨⟨p, l, e, R, s⟩, ⟨m, args, below, meth, c⟩, D, cy, A, Q, X0⟩ := φ
  obtain ⟨f1, f2, f3, f4, f5, f6, f7, f8, f9, f10, f11⟩ := hF
  obtain ⟨v1, v2, T, N, v3⟩ := hv
  intro H locs ls hP hE hS hl
  obtain ⟨L, q, h1, h2, h3, h4⟩ := hP.get hb
  subst f11
  refine jv_back (va_runV (C := y.cls) (Ts := []) (n := n) (rest := rest) ⟨f1, f2, f3, f4, fun _ h => by cases h⟩ (hC l D cy H.size) ⟨⟨rfl, rfl, hR.1.1, hR.1.2, ja_good f5 hm.1 (args := args), List.mem_singleton.mpr rfl, f5.at hm.1 _, f5.at hm.2.1 _, ⟨hm.2.2.1, hm.2.2.2.1⟩, ja_par hm.2.2.2.2, f5.at hk _⟩, f5.at v1 _, f5.at v2 _⟩ ⟨Pp.blind, va_recv f9 h2 v3 h4, ja_pre f5 f9 hP _⟩ rfl hn (by show ls.size = nL; rw [hl.1]; exact hnL) hst (lv_room hc) hd ⟨hR.2.1, hR.2.2⟩) f10 hP hE hS hl kk
theorem j_iretv (hF : Fx φ cc nL ow (some .int) nm fr lw KC KS) {X0 : Hp} {post : Option Value → Hp → Nat → Nat → Prop} {KC' KS' : Nat} (hR : Rv φ X0 KC' KS' post) {x : Int32} (hd : decode cc pc = .ok (.ireturn, 1)) (h1 : kc ≤ KC') (h2 : ks ≤ KS') (hp : post (some (.int x)) X kc ks) : Jd φ X kc ks pc lo [.int x] := by
  obtain ⟨⟨p, l, e, R, s⟩, ⟨m, args, below, meth, c⟩, D, cy, A, Q, X1⟩ := φ
  obtain ⟨f1, f2, f3, f4, f5, f6, f7, f8, f9, f10, f11⟩ := hF
  obtain ⟨rfl, rfl, rfl⟩ := hR
  intro H locs ls hP hE hS hl
  refine wv_know (fun g1 g2 => W.widen h1 h2 (W.iret f1 f2 f7 (fun t ht hW => ⟨⟨_, X, kc, ks, rfl, hp, hE, by rw [ht]; exact hP, by rw [ht]; exact g1, by rw [ht]; exact g2⟩, hS.F ht⟩) hS.2.2 hd f6))
theorem j_zretv (hF : Fx φ cc nL ow (some .boolean) nm fr lw KC KS) {X0 : Hp} {post : Option Value → Hp → Nat → Nat → Prop} {KC' KS' : Nat} (hR : Rv φ X0 KC' KS' post) {x : Int} (hx : x = 0 ∨ x = 1) (hd : decode cc pc = .ok (.ireturn, 1)) (h1 : kc ≤ KC') (h2 : ks ≤ KS') (hp : post (some (vi x)) X kc ks) : Jd φ X kc ks pc lo [vi x] := by
  obtain ⟨⟨p, l, e, R, s⟩, ⟨m, args, below, meth, c⟩, D, cy, A, Q, X1⟩ := φ
  obtain ⟨f1, f2, f3, f4, f5, f6, f7, f8, f9, f10, f11⟩ := hF
  obtain ⟨rfl, rfl, rfl⟩ := hR
  intro H locs ls hP hE hS hl
  refine wv_know (fun g1 g2 => W.widen h1 h2 (W.zret (ty := .boolean) f1 f2 f7 (by rcases hx with rfl | rfl <;> decide) (fun t ht hW => ⟨⟨_, X, kc, ks, rfl, hp, hE, by rw [ht]; exact hP, by rw [ht]; exact g1, by rw [ht]; exact g2⟩, hS.F ht⟩) hS.2.2 hd f6))
theorem j_vretv (hF : Fx φ cc nL ow none nm fr lw KC KS) {X0 : Hp} {post : Option Value → Hp → Nat → Nat → Prop} {KC' KS' : Nat} (hR : Rv φ X0 KC' KS' post) (hd : decode cc pc = .ok (.return_, 1)) (h1 : kc ≤ KC') (h2 : ks ≤ KS') (hp : post none X kc ks) : Jd φ X kc ks pc lo [] := by
  obtain ⟨⟨p, l, e, R, s⟩, ⟨m, args, below, meth, c⟩, D, cy, A, Q, X1⟩ := φ
  obtain ⟨f1, f2, f3, f4, f5, f6, f7, f8, f9, f10, f11⟩ := hF
  obtain ⟨rfl, rfl, rfl⟩ := hR
  intro H locs ls hP hE hS hl
  refine wv_know (fun g1 g2 => W.widen h1 h2 (W.vret f1 f2 f7 (fun t ht hW => ⟨⟨_, X, kc, ks, rfl, hp, hE, by rw [ht]; exact hP, by rw [ht]; exact g1, by rw [ht]; exact g2⟩, hS.F ht⟩) hS.2.2 hd f6))
theorem j_lretv (hF : Fx φ cc nL ow (some .long) nm fr lw KC KS) {X0 : Hp} {post : Option Value → Hp → Nat → Nat → Prop} {KC' KS' : Nat} (hR : Rv φ X0 KC' KS' post) {x : Int64} (hd : decode cc pc = .ok (.lreturn, 1)) (h1 : kc ≤ KC') (h2 : ks ≤ KS') (hp : post (some (.long x)) X kc ks) : Jd φ X kc ks pc lo [.long x] := by
  obtain ⟨⟨p, l, e, R, s⟩, ⟨m, args, below, meth, c⟩, D, cy, A, Q, X1⟩ := φ
  obtain ⟨f1, f2, f3, f4, f5, f6, f7, f8, f9, f10, f11⟩ := hF
  obtain ⟨rfl, rfl, rfl⟩ := hR
  intro H locs ls hP hE hS hl
  refine wv_know (fun g1 g2 => W.widen h1 h2 (W.lret f1 f2 f7 (fun t ht hW => ⟨⟨_, X, kc, ks, rfl, hp, hE, by rw [ht]; exact hP, by rw [ht]; exact g1, by rw [ht]; exact g2⟩, hS.F ht⟩) hS.2.2 hd f6))
end VRULES
