/-! fields, arrays, new cells -/
theorem kk_words {s : State} {args : Array Value} (hK : Kw s) {ws : List Cond} (hin : ∀ w ∈ ws, w ∈ lw_tbl ∧ kw w = true) : ∀ w ∈ ws, w.before args s = true := fun w hw => hK.at (hin w hw) args
/-- what the tables say of a field -/
def FL (ow : String) (idx ci k : Nat) (fin : Bool) (fty : FieldType) : Prop := ∃ (C : String) (T : u_T) (N : Nat) (ty : Nat → FieldType), vwCl[ci]? = some (C, T, N) ∧ (∀ w ∈ u_ws C T N, w ∈ lw_tbl ∧ kw w = true) ∧ (∀ k, k < N → parseFieldDescriptor (T k).2.2.1 = some (ty k)) ∧ (∀ a, a < N → ∀ b, b < N → a ≠ b → (T a).2.1 ≠ (T b).2.1) ∧ k < N ∧ (Cond.fieldLink ow idx (T k).1 (T k).2.1 (T k).2.2.1 ∈ lw_tbl ∧ kw (Cond.fieldLink ow idx (T k).1 (T k).2.1 (T k).2.2.1) = true) ∧ (T k).2.2.2 = fin ∧ ty k = fty ∧ (fin = true → ow = C → (T k).1 = ow)
/-- what the tables say of a new object -/
def NW (ow : String) (idx ci : Nat) (fs : List Value) : Prop := ∃ (C : String) (T : u_T) (ty : Nat → FieldType), vwCl[ci]? = some (C, T, fs.length) ∧ (∀ w ∈ u_ws C T fs.length, w ∈ lw_tbl ∧ kw w = true) ∧ (∀ k, k < fs.length → parseFieldDescriptor (T k).2.2.1 = some (ty k)) ∧ (Cond.classLink ow idx C ∈ lw_tbl ∧ kw (Cond.classLink ow idx C) = true) ∧ (Cond.instantiable C fs.length ∈ lw_tbl ∧ kw (Cond.instantiable C fs.length) = true) ∧ (Cond.initialized C ∈ lw_tbl ∧ kw (Cond.initialized C) = true) ∧ (∀ j, j < fs.length → defaultValue (ty j) = vp_V fs j)
theorem ja_RA {U : State} {c1 c2 : ClassId} {ty : FieldType} (h1 : va_RA U c1 ty) (h2 : va_RA U c2 ty) : c1 = c2 := by
  cases ty with
  | object C =>
    obtain ⟨_, _, _, _, _, g1⟩ := h1
    obtain ⟨_, _, _, _, _, g2⟩ := h2
    exact Option.some.inj (g1.symm.trans g2)
  | _ => exact Option.some.inj (Eq.trans (Eq.symm h1) h2)
theorem ja_tys_at (cy : Nat → ClassId) {t : Nat} (h : t < 5) : (ja_tys cy)[t]? = some (cy t, ja_ty t) := by
  rcases (show t = 0 ∨ t = 1 ∨ t = 2 ∨ t = 3 ∨ t = 4 by omega) with rfl | rfl | rfl | rfl | rfl <;> rfl
section HRULES
variable {φ : Fi} {X : Hp} {kc ks pc : Nat} {lo : List (Option Value)} {st : List Value} {cc : ByteArray} {nL : Nat} {ow : String} {rt : Option FieldType} {nm : String} {fr lw KC KS : Nat}
theorem j_get (hF : Fx φ cc nL ow rt nm fr lw KC KS) {a lb ci k idx : Nat} {fs : List Value} {v : Value} {fin : Bool} {fty : FieldType} (hx : X a = some (lb, ob ci fs)) (hfl : FL ow idx ci k fin fty) (hd : decode cc pc = .ok (.getfield idx, 3)) (hv : fs[k]? = some v) (kk : Jd φ X kc ks (pc + 3) lo (v :: st)) : Jd φ X kc ks pc lo (.ref a :: st) := by
  obtain ⟨⟨p, l, e, R, s⟩, ⟨m, args, below, meth, c⟩, D, cy, A, Q, X0⟩ := φ
  obtain ⟨f1, f2, f3, f4, f5, f6, f7, f8, f9, f10, f11⟩ := hF
  obtain ⟨C, T, N, ty, g1, g2, g3, g4, g5, g6, g7, g8, g9⟩ := hfl
  intro H locs ls hP hE hS hl
  obtain ⟨L, q, h1, h2, h3, h4⟩ := hP.get hx
  exact va_get (D := D) (Ts := u_ws C T N) f1 f2 (kk_words f5 g2) (fun _ h => h) f4 f9 h2 q h4 g1 k g5 (f5.at g6 _) (fun _ h => h) hv hd (kk H locs ls hP hE hS hl)
theorem j_put (hF : Fx φ cc nL ow rt nm fr lw KC KS) {a lb ci k idx : Nat} {fs : List Value} {v : Value} {fty : FieldType} (hx : X a = some (lb, ob ci fs)) (hfl : FL ow idx ci k false fty) (hd : decode cc pc = .ok (.putfield idx, 3)) (hn : narrow fty v = v) (hfit : fits fty v = true) (hl0 : k < fs.length) (kk : Jd φ (va_up X a (some (lb, ob ci (fs.set k v)))) kc ks (pc + 3) lo st) : Jd φ X kc ks pc lo (v :: .ref a :: st) := by
  obtain ⟨⟨p, l, e, R, s⟩, ⟨m, args, below, meth, c⟩, D, cy, A, Q, X0⟩ := φ
  obtain ⟨f1, f2, f3, f4, f5, f6, f7, f8, f9, f10, f11⟩ := hF
  obtain ⟨C, T, N, ty, g1, g2, g3, g4, g5, g6, g7, g8, g9⟩ := hfl
  intro H locs ls hP hE hS hl
  obtain ⟨L, q, h1, h2, h3, h4⟩ := hP.get hx
  exact va_put (D := D) (Ts := u_ws C T N) f1 f2 (kk_words f5 g2) (fun _ h => h) ty g3 g4 f4 f9 h2 h3 hS q h4 g1 k g5 (f5.at g6 _) (fun _ h => h) g7 (by rw [g3 k g5, g8]) hn hfit hl0 hd (fun H1 locs1 hP1 hD1 hS1 => kk H1 locs1 ls (PO.set (q := ob ci fs) (c := ob ci (fs.set k v)) h1 h3 hx h4 hP1 hD1 (ja_ok_set hP.2 (fun _ _ _ h => by cases h) (fun _ _ _ h => by cases h))) (hE.trans (XE.set hx)) hS1 hl)
theorem j_putF (hF : Fx φ cc nL ow rt nm fr lw KC KS) {a lb ci k idx : Nat} {fs : List Value} {v : Value} {fty : FieldType} (hx : X a = some (lb, ob ci fs)) (hfl : FL ow idx ci k true fty) (hoc : ∃ (T : u_T) (N : Nat), vwCl[ci]? = some (ow, T, N)) (hin : nm = "<init>") (hd : decode cc pc = .ok (.putfield idx, 3)) (hn : narrow fty v = v) (hfit : fits fty v = true) (hl0 : k < fs.length) (kk : Jd φ (va_up X a (some (lb, ob ci (fs.set k v)))) kc ks (pc + 3) lo st) : Jd φ X kc ks pc lo (v :: .ref a :: st) := by
  obtain ⟨⟨p, l, e, R, s⟩, ⟨m, args, below, meth, c⟩, D, cy, A, Q, X0⟩ := φ
  obtain ⟨f1, f2, f3, f4, f5, f6, f7, f8, f9, f10, f11⟩ := hF
  obtain ⟨C, T, N, ty, g1, g2, g3, g4, g5, g6, g7, g8, g9⟩ := hfl
  intro H locs ls hP hE hS hl
  obtain ⟨L, q, h1, h2, h3, h4⟩ := hP.get hx
  exact va_putF (D := D) (Ts := u_ws C T N) f1 f2 (kk_words f5 g2) (fun _ h => h) ty g3 g4 f4 f9 h2 h3 hS q h4 g1 k g5 (f5.at g6 _) (fun _ h => h) g7 (f8.trans hin) (g9 rfl (by obtain ⟨T', N', ho⟩ := hoc; rw [g1] at ho; simp at ho; exact ho.1.symm)) (by rw [g3 k g5, g8]) hn hfit hl0 hd (fun H1 locs1 hP1 hD1 hS1 => kk H1 locs1 ls (PO.set (q := ob ci fs) (c := ob ci (fs.set k v)) h1 h3 hx h4 hP1 hD1 (ja_ok_set hP.2 (fun _ _ _ h => by cases h) (fun _ _ _ h => by cases h))) (hE.trans (XE.set hx)) hS1 hl)
theorem j_iald (hF : Fx φ cc nL ow rt nm fr lw KC KS) {a lb n : Nat} {f : Int → Int} {i : Int} (hx : X a = some (lb, ia 0 n f)) (hd : decode cc pc = .ok (.iaload, 1)) (hi : 0 ≤ i ∧ i < n) (kk : -2147483648 ≤ f i → f i ≤ 2147483647 → Jd φ X kc ks (pc + 1) lo (vi (f i) :: st)) : Jd φ X kc ks pc lo (vi i :: .ref a :: st) := by
  obtain ⟨⟨p, l, e, R, s⟩, ⟨m, args, below, meth, c⟩, D, cy, A, Q, X0⟩ := φ
  obtain ⟨f1, f2, f3, f4, f5, f6, f7, f8, f9, f10, f11⟩ := hF
  intro H locs ls hP hE hS hl
  obtain ⟨L, q, h1, h2, h3, h4⟩ := hP.get hx
  have hn := (hP.2.1 a lb 0 n f hx).1
  have hr := (hP.2.1 a lb 0 n f hx).2 i hi.1 hi.2
  refine va_iald f1 f2 f9 h2 q 0 h4 (ja_tys_at cy (by omega)) (ja_in hi.1 hi.2 hn) hd ?_
  rw [ja_C hi.1 (by omega)]
  exact kk hr.1 hr.2 H locs ls hP hE hS hl
theorem j_zald (hF : Fx φ cc nL ow rt nm fr lw KC KS) {a lb n : Nat} {f : Int → Int} {i : Int} (hx : X a = some (lb, ia 1 n f)) (hd : decode cc pc = .ok (.baload, 1)) (hi : 0 ≤ i ∧ i < n) (kk : -2147483648 ≤ f i → f i ≤ 2147483647 → Jd φ X kc ks (pc + 1) lo (vi (f i) :: st)) : Jd φ X kc ks pc lo (vi i :: .ref a :: st) := by
  obtain ⟨⟨p, l, e, R, s⟩, ⟨m, args, below, meth, c⟩, D, cy, A, Q, X0⟩ := φ
  obtain ⟨f1, f2, f3, f4, f5, f6, f7, f8, f9, f10, f11⟩ := hF
  intro H locs ls hP hE hS hl
  obtain ⟨L, q, h1, h2, h3, h4⟩ := hP.get hx
  have hn := (hP.2.1 a lb 1 n f hx).1
  have hr := (hP.2.1 a lb 1 n f hx).2 i hi.1 hi.2
  refine va_zald f1 f2 f9 h2 q 1 h4 (ja_tys_at cy (by omega)) (ja_in hi.1 hi.2 hn) hd ?_
  rw [ja_C hi.1 (by omega)]
  exact kk hr.1 hr.2 H locs ls hP hE hS hl
def fu (f : Int → Int) (i v : Int) : Int → Int := fun j => if j = i then v else f j
theorem fu_s {f : Int → Int} {i v : Int} : fu f i v i = v := by simp [fu]
theorem fu_n {f : Int → Int} {i v j : Int} (h : j ≠ i) : fu f i v j = f j := by simp [fu, h]
theorem ja_upd {f : Int → Int} {i v : Int} (h1 : 0 ≤ i) (h2 : i ≤ 2147483647) : upd (fun j : Nat => Int32.ofInt (f j)) (Int32.ofInt i).toNatClampNeg (Int32.ofInt v) = fun j : Nat => Int32.ofInt (fu f i v j) := by
  have e := ja_C h1 h2
  funext j
  by_cases hj : j = (Int32.ofInt i).toNatClampNeg
  · subst hj
    rw [pk_us, e, fu_s]
  · rw [pk_un hj, fu_n (by omega)]
theorem j_iast (hF : Fx φ cc nL ow rt nm fr lw KC KS) {a lb n : Nat} {f : Int → Int} {i v : Int} (hx : X a = some (lb, ia 0 n f)) (hd : decode cc pc = .ok (.iastore, 1)) (hi : 0 ≤ i ∧ i < n) (hr : -2147483648 ≤ v ∧ v ≤ 2147483647) (kk : Jd φ (va_up X a (some (lb, ia 0 n (fu f i v)))) kc ks (pc + 1) lo st) : Jd φ X kc ks pc lo (vi v :: vi i :: .ref a :: st) := by
  obtain ⟨⟨p, l, e, R, s⟩, ⟨m, args, below, meth, c⟩, D, cy, A, Q, X0⟩ := φ
  obtain ⟨f1, f2, f3, f4, f5, f6, f7, f8, f9, f10, f11⟩ := hF
  intro H locs ls hP hE hS hl
  obtain ⟨L, q, h1, h2, h3, h4⟩ := hP.get hx
  obtain ⟨hn, hr0⟩ := hP.2.1 a lb 0 n f hx
  refine va_iast f1 f2 f9 h2 h3 hS q 0 h4 (ja_tys_at cy (by omega)) (ja_in hi.1 hi.2 hn) hd (fun H1 locs1 hP1 hD1 hS1 => ?_)
  rw [ja_upd hi.1 (by omega)] at hP1 hD1
  refine kk H1 locs1 ls (PO.set (q := ia 0 n f) (c := ia 0 n (fu f i v)) h1 h3 hx h4 hP1 hD1 (ja_ok_set hP.2 (fun t n' f' h => ?_) (fun _ _ _ h => by cases h))) (hE.trans (XE.set hx)) hS1 hl
  cases h
  refine ⟨hn, fun j a1 a2 => ?_⟩
  by_cases hj : j = i
  · rw [hj, fu_s]; exact hr
  · rw [fu_n hj]; exact hr0 j a1 a2
theorem j_zast (hF : Fx φ cc nL ow rt nm fr lw KC KS) {a lb n : Nat} {f : Int → Int} {i v : Int} (hx : X a = some (lb, ia 1 n f)) (hd : decode cc pc = .ok (.bastore, 1)) (hi : 0 ≤ i ∧ i < n) (hr : v = 0 ∨ v = 1) (kk : Jd φ (va_up X a (some (lb, ia 1 n (fu f i v)))) kc ks (pc + 1) lo st) : Jd φ X kc ks pc lo (vi v :: vi i :: .ref a :: st) := by
  obtain ⟨⟨p, l, e, R, s⟩, ⟨m, args, below, meth, c⟩, D, cy, A, Q, X0⟩ := φ
  obtain ⟨f1, f2, f3, f4, f5, f6, f7, f8, f9, f10, f11⟩ := hF
  intro H locs ls hP hE hS hl
  obtain ⟨L, q, h1, h2, h3, h4⟩ := hP.get hx
  obtain ⟨hn, hr0⟩ := hP.2.1 a lb 1 n f hx
  refine va_zast f1 f2 f9 h2 h3 hS q 1 h4 (ja_tys_at cy (by omega)) (ja_in hi.1 hi.2 hn) hd (fun H1 locs1 hP1 hD1 hS1 => ?_)
  have en : vp_nar .boolean (Int32.ofInt v) = Int32.ofInt v := by rcases hr with rfl | rfl <;> decide
  rw [en, ja_upd hi.1 (by omega)] at hP1 hD1
  refine kk H1 locs1 ls (PO.set (q := ia 1 n f) (c := ia 1 n (fu f i v)) h1 h3 hx h4 hP1 hD1 (ja_ok_set hP.2 (fun t n' f' h => ?_) (fun _ _ _ h => by cases h))) (hE.trans (XE.set hx)) hS1 hl
  cases h
  refine ⟨hn, fun j a1 a2 => ?_⟩
  by_cases hj : j = i
  · rw [hj, fu_s]; omega
  · rw [fu_n hj]; exact hr0 j a1 a2
theorem j_ilen (hF : Fx φ cc nL ow rt nm fr lw KC KS) {a lb t n : Nat} {f : Int → Int} (ht : t < 5) (hx : X a = some (lb, ia t n f)) (hd : decode cc pc = .ok (.arraylength, 1)) (kk : (n : Int) ≤ 2147483647 → Jd φ X kc ks (pc + 1) lo (vi n :: st)) : Jd φ X kc ks pc lo (.ref a :: st) := by
  obtain ⟨⟨p, l, e, R, s⟩, ⟨m, args, below, meth, c⟩, D, cy, A, Q, X0⟩ := φ
  obtain ⟨f1, f2, f3, f4, f5, f6, f7, f8, f9, f10, f11⟩ := hF
  intro H locs ls hP hE hS hl
  obtain ⟨L, q, h1, h2, h3, h4⟩ := hP.get hx
  have hn := (hP.2.1 a lb t n f hx).1
  exact va_alen f1 f2 f9 h2 q t h4 (ja_tys_at cy ht) (by show Int32.ofNat n = Int32.ofInt n; rfl) hd (kk (by omega) H locs ls hP hE hS hl)
theorem j_aald (hF : Fx φ cc nL ow rt nm fr lw KC KS) {a lb t n : Nat} {f : Int → Option Nat} {i : Int} {b : Nat} (ht : 2 ≤ t ∧ t < 5) (hx : X a = some (lb, ra t n f)) (hd : decode cc pc = .ok (.aaload, 1)) (hi : 0 ≤ i ∧ i < n) (hb : f i = some b) (kk : Jd φ X kc ks (pc + 1) lo (.ref b :: st)) : Jd φ X kc ks pc lo (vi i :: .ref a :: st) := by
  obtain ⟨⟨p, l, e, R, s⟩, ⟨m, args, below, meth, c⟩, D, cy, A, Q, X0⟩ := φ
  obtain ⟨f1, f2, f3, f4, f5, f6, f7, f8, f9, f10, f11⟩ := hF
  intro H locs ls hP hE hS hl
  obtain ⟨L, q, h1, h2, h3, h4⟩ := hP.get hx
  have hn := hP.2.2 a lb t n f hx
  have hty : ∃ C, ja_ty t = .object C := by rcases (show t = 2 ∨ t = 3 ∨ t = 4 by omega) with rfl | rfl | rfl <;> exact ⟨_, rfl⟩
  obtain ⟨C, hC⟩ := hty
  refine va_aldq f1 f2 f9 h2 q t h4 (by rw [ja_tys_at cy ht.2, hC]) (ja_in hi.1 hi.2 hn) hd ?_
  rw [ja_C hi.1 (by omega)]
  show W p l e R s m args below meth c H locs kc ks Q (F0 m (pc + 1) ls (va_rf (f i) :: st))
  rw [hb]
  exact kk H locs ls hP hE hS hl
def fo (f : Int → Option Nat) (i : Int) (v : Option Nat) : Int → Option Nat := fun j => if j = i then v else f j
theorem fo_s {f : Int → Option Nat} {i : Int} {v : Option Nat} : fo f i v i = v := by simp [fo]
theorem fo_n {f : Int → Option Nat} {i j : Int} {v : Option Nat} (h : j ≠ i) : fo f i v j = f j := by simp [fo, h]
def ja_cls : Nat → Nat
  | 2 => 2
  | 3 => 3
  | _ => 4
theorem j_aast (hF : Fx φ cc nL ow rt nm fr lw KC KS) {a lb t n lb' ci : Nat} {fs : List Value} {f : Int → Option Nat} {i : Int} {b : Nat} (ht : 2 ≤ t ∧ t < 5) (hx : X a = some (lb, ra t n f)) (hb : X b = some (lb', ob ci fs)) (hci : ci = ja_cls t) (hd : decode cc pc = .ok (.aastore, 1)) (hi : 0 ≤ i ∧ i < n) (kk : Jd φ (va_up X a (some (lb, ra t n (fo f i (some b))))) kc ks (pc + 1) lo st) : Jd φ X kc ks pc lo (.ref b :: vi i :: .ref a :: st) := by
  obtain ⟨⟨p, l, e, R, s⟩, ⟨m, args, below, meth, c⟩, D, cy, A, Q, X0⟩ := φ
  obtain ⟨f1, f2, f3, f4, f5, f6, f7, f8, f9, f10, f11⟩ := hF
  intro H locs ls hP hE hS hl
  obtain ⟨L, q, h1, h2, h3, h4⟩ := hP.get hx
  have hn := hP.2.2 a lb t n f hx
  obtain ⟨q2, hq2⟩ := va_pl_get (X := []) (f := ja_xf cy X) ((h1 b).mpr ⟨_, hb⟩)
  rw [ja_xf_at hb] at hq2
  have hty : ∃ r : vw_C, vwCl[ci]? = some r ∧ ja_ty t = .object r.1 := by subst hci; rcases (show t = 2 ∨ t = 3 ∨ t = 4 by omega) with rfl | rfl | rfl <;> exact ⟨_, rfl, rfl⟩
  obtain ⟨r, hr1, hr2⟩ := hty
  refine va_astq f1 f2 f9 h2 h3 hS q t q2 ci (r := r) h4 (by rw [ja_tys_at cy ht.2, hr2]) hq2 hr1 (ja_in hi.1 hi.2 hn) hd (fun H1 locs1 hP1 hD1 hS1 => ?_)
  have e : va_up (fun j : Nat => f j) (Int32.ofInt i).toNatClampNeg (some b) = fun j : Nat => fo f i (some b) j := by
    have e := ja_C hi.1 (by omega)
    funext j
    by_cases hj : j = (Int32.ofInt i).toNatClampNeg
    · subst hj
      rw [va_up_self, e, fo_s]
    · rw [va_up_ne _ _ hj, fo_n (by omega)]
  rw [e] at hP1 hD1
  refine kk H1 locs1 ls (PO.set (q := ra t n f) (c := ra t n (fo f i (some b))) h1 h3 hx h4 hP1 hD1 (ja_ok_set hP.2 (fun _ _ _ h => by cases h) (fun t n' f' h => ?_))) (hE.trans (XE.set hx)) hS1 hl
  cases h
  exact hn
theorem j_new (hF : Fx φ cc nL ow rt nm fr lw KC KS) (lb : Nat) {idx ci : Nat} {fs : List Value} (hw : NW ow idx ci fs) (hd : decode cc pc = .ok (.new idx, 3)) (hc : kc + 1 ≤ KC) (hs : ks + fs.length ≤ KS) (kk : ∀ q, X q = none → Jd φ (va_up X q (some (lb, ob ci fs))) (kc + 1) (ks + fs.length) (pc + 3) lo (.ref q :: st)) : Jd φ X kc ks pc lo st := by
  obtain ⟨⟨p, l, e, R, s⟩, ⟨m, args, below, meth, c⟩, D, cy, A, Q, X0⟩ := φ
  obtain ⟨f1, f2, f3, f4, f5, f6, f7, f8, f9, f10, f11⟩ := hF
  obtain ⟨C, T, ty, g1, g2, g3, g4, g5, g6, g7⟩ := hw
  intro H locs ls hP hE hS hl
  obtain ⟨⟨L, h1, h2, h3⟩, hok⟩ := id hP
  refine va_new (D := D) (Ts := u_ws C T fs.length) f1 f2 (kk_words f5 g2) (fun _ h => h) ty g3 f4 (f5.at g4 _) (f5.at g5 _) (f5.at g6 _) f9 h2 h3 hS f10 g1 g7 (by rw [f11]; exact hc) (by rw [f11]; exact hs) hd (fun q H1 hP1 hD1 hS1 => ?_)
  obtain ⟨z1, z2⟩ := PO.push (lb := lb) (c := ob ci fs) h1 hP1 hD1 (fun _ => ja_ok_set hok (fun _ _ _ h => by cases h) (fun _ _ _ h => by cases h))
  exact kk q z1 H1 locs ls z2 (hE.trans (XE.push z1)) hS1 hl
theorem j_newi (hF : Fx φ cc nL ow rt nm fr lw KC KS) (lb N : Nat) (hw : Cond.arrayClass .int ∈ lw_tbl) (hd : decode cc pc = .ok (.newarray .int, 2)) (hN : N ≤ 1000000) (hc : kc + 1 ≤ KC) (hs : ks + N ≤ KS) (kk : ∀ q, X q = none → Jd φ (va_up X q (some (lb, ia 0 N (fun _ => 0)))) (kc + 1) (ks + N) (pc + 2) lo (.ref q :: st)) {z : Int} (hz : z = N) : Jd φ X kc ks pc lo (vi z :: st) := by
  subst hz
  obtain ⟨⟨p, l, e, R, s⟩, ⟨m, args, below, meth, c⟩, D, cy, A, Q, X0⟩ := φ
  obtain ⟨f1, f2, f3, f4, f5, f6, f7, f8, f9, f10, f11⟩ := hF
  intro H locs ls hP hE hS hl
  obtain ⟨⟨L, h1, h2, h3⟩, hok⟩ := id hP
  refine va_newa (atype := .int) (N' := N) (a0 := (N, .inl (fun _ => Int32.ofInt 0))) f1 f2 (f5.at ⟨hw, rfl⟩ _) rfl f9 h2 h3 hS f10 (fun _ => rfl) (ja_nn (by omega) (by omega)) (by have := ja_C (z := (N : Int)) (by omega) (by omega); omega) (by show N * 4 ≤ _; omega) (by rw [f11]; exact hc) (by rw [f11]; exact hs) hd (fun q cA H1 hK1 hP1 hD1 hS1 => ?_)
  have ec : cA = cy 0 := ja_RA (ty := .int) (hK1.2 5 (cA, .int) rfl).2 (f9.2 0 (cy 0, .int) rfl).2
  subst ec
  obtain ⟨z1, z2⟩ := PO.push (lb := lb) (c := ia 0 N (fun _ => 0)) h1 hP1 hD1 (fun _ => ja_ok_set hok (fun t n f h => by cases h; exact ⟨by omega, fun _ _ _ => ⟨by show (-2147483648 : Int) ≤ 0; omega, by show (0 : Int) ≤ 2147483647; omega⟩⟩) (fun _ _ _ h => by cases h))
  exact kk q z1 H1 locs ls z2 (hE.trans (XE.push z1)) hS1 hl
theorem j_newz (hF : Fx φ cc nL ow rt nm fr lw KC KS) (lb N : Nat) (hw : Cond.arrayClass .boolean ∈ lw_tbl) (hd : decode cc pc = .ok (.newarray .boolean, 2)) (hN : N ≤ 1000000) (hc : kc + 1 ≤ KC) (hs : ks + N ≤ KS) (kk : ∀ q, X q = none → Jd φ (va_up X q (some (lb, ia 1 N (fun _ => 0)))) (kc + 1) (ks + N) (pc + 2) lo (.ref q :: st)) {z : Int} (hz : z = N) : Jd φ X kc ks pc lo (vi z :: st) := by
  subst hz
  obtain ⟨⟨p, l, e, R, s⟩, ⟨m, args, below, meth, c⟩, D, cy, A, Q, X0⟩ := φ
  obtain ⟨f1, f2, f3, f4, f5, f6, f7, f8, f9, f10, f11⟩ := hF
  intro H locs ls hP hE hS hl
  obtain ⟨⟨L, h1, h2, h3⟩, hok⟩ := id hP
  refine va_newa (atype := .boolean) (N' := N) (a0 := (N, .inl (fun _ => Int32.ofInt 0))) f1 f2 (f5.at ⟨hw, rfl⟩ _) rfl f9 h2 h3 hS f10 (fun _ => rfl) (ja_nn (by omega) (by omega)) (by have := ja_C (z := (N : Int)) (by omega) (by omega); omega) (by show N * 1 ≤ _; omega) (by rw [f11]; exact hc) (by rw [f11]; exact hs) hd (fun q cA H1 hK1 hP1 hD1 hS1 => ?_)
  have ec : cA = cy 1 := ja_RA (ty := .boolean) (hK1.2 5 (cA, .boolean) rfl).2 (f9.2 1 (cy 1, .boolean) rfl).2
  subst ec
  obtain ⟨z1, z2⟩ := PO.push (lb := lb) (c := ia 1 N (fun _ => 0)) h1 hP1 hD1 (fun _ => ja_ok_set hok (fun t n f h => by cases h; exact ⟨by omega, fun _ _ _ => ⟨by show (-2147483648 : Int) ≤ 0; omega, by show (0 : Int) ≤ 2147483647; omega⟩⟩) (fun _ _ _ h => by cases h))
  exact kk q z1 H1 locs ls z2 (hE.trans (XE.push z1)) hS1 hl
theorem j_newq (hF : Fx φ cc nL ow rt nm fr lw KC KS) (lb t N : Nat) {idx : Nat} {C : String} (ht : t < 5) (hty : ja_ty t = .object C) (hw : Cond.classLink ow idx C ∈ lw_tbl ∧ kw (Cond.classLink ow idx C) = true) (hw2 : Cond.arrayOver (.object C) ∈ lw_tbl) (hd : decode cc pc = .ok (.anewarray idx, 3)) (hN : N ≤ 1000000) (hc : kc + 1 ≤ KC) (hs : ks + N ≤ KS) (kk : ∀ q, X q = none → Jd φ (va_up X q (some (lb, ra t N (fun _ => none)))) (kc + 1) (ks + N) (pc + 3) lo (.ref q :: st)) {z : Int} (hz : z = N) : Jd φ X kc ks pc lo (vi z :: st) := by
  subst hz
  obtain ⟨⟨p, l, e, R, s⟩, ⟨m, args, below, meth, c⟩, D, cy, A, Q, X0⟩ := φ
  obtain ⟨f1, f2, f3, f4, f5, f6, f7, f8, f9, f10, f11⟩ := hF
  intro H locs ls hP hE hS hl
  obtain ⟨⟨L, h1, h2, h3⟩, hok⟩ := id hP
  refine va_newq (C := C) (N' := N) f1 f2 f4 (f5.at hw _) (va_AO.of (f5.at ⟨hw2, rfl⟩ args)) f9 h2 h3 hS f10 (ja_nn (by omega) (by omega)) (by have := ja_C (z := (N : Int)) (by omega) (by omega); omega) (by omega) (by rw [f11]; exact hc) (by rw [f11]; exact hs) hd (fun q cA H1 hK1 hP1 hD1 hS1 => ?_)
  have ec : cA = cy t := ja_RA (ty := .object C) (hK1.2 5 (cA, .object C) rfl).2 (hty ▸ (f9.2 t (cy t, ja_ty t) (ja_tys_at cy ht)).2)
  subst ec
  obtain ⟨z1, z2⟩ := PO.push (lb := lb) (c := ra t N (fun _ => none)) h1 hP1 hD1 (fun _ => ja_ok_set hok (fun _ _ _ h => by cases h) (fun t n f h => by cases h; omega))
  exact kk q z1 H1 locs ls z2 (hE.trans (XE.push z1)) hS1 hl
end HRULES
