/-! the reference leaves the class's cells -/
theorem GP.kr {X X1 : Hp} {b g d s e k : Nat} {nc ec : Int} {fd fs fe fk : Int → Int} (h : GP X b g d s e k nc ec fd fs fe fk) (hF : FR X X1) (hb : b + 10 ≤ 5000) : GP X1 b g d s e k nc ec fd fs fe fk :=
  ⟨hF _ _ _ h.1 (by omega), hF _ _ _ h.2.1 (by omega), hF _ _ _ h.2.2.1 (by omega), hF _ _ _ h.2.2.2.1 (by omega), hF _ _ _ h.2.2.2.2 (by omega)⟩
theorem GR.kr {X X1 : Hp} {b g : Nat} {r : Int → Int} (h : GR X b g r) (hF : FR X X1) (hb : b + 10 ≤ 5000) : GR X1 b g r := by
  obtain ⟨d, s, e, k, nc, ec, fd, fs, fe, fk, hM, hV⟩ := h
  exact ⟨d, s, e, k, nc, ec, fd, fs, fe, fk, hM.kr hF hb, hV⟩
theorem MR.kr {X X1 : Hp} {b ml : Nat} {r : Int → Int} (h : MR X b ml r) (hF : FR X X1) (hb : b + 10 ≤ 5000) : MR X1 b ml r := by
  obtain ⟨mz, mt, fz, ft, hM, hV⟩ := h
  exact ⟨mz, mt, fz, ft, ⟨hF _ _ _ hM.1 (by omega), hF _ _ _ hM.2.1 (by omega), hF _ _ _ hM.2.2 (by omega)⟩, hV⟩
theorem HR.kr {X X1 : Hp} {b ws : Nat} {r : Int → Int} (h : HR X b ws r) (hF : FR X X1) (hb : b + 10 ≤ 5000) : HR X1 b ws r := by
  obtain ⟨wz, wt, fz, ft, hM, hV⟩ := h
  exact ⟨wz, wt, fz, ft, ⟨hF _ _ _ hM.1 (by omega), hF _ _ _ hM.2.1 (by omega), hF _ _ _ hM.2.2 (by omega)⟩, hV⟩
theorem VR.kr {X X1 : Hp} {b v n : Nat} {sz : Int} {f : Int → Int} (h : VR X b v n sz f) (hF : FR X X1) (hb : b + 10 ≤ 5000) : VR X1 b v n sz f := by
  obtain ⟨s, c, k, fs, fv, fk, hM, hV⟩ := h
  exact ⟨s, c, k, fs, fv, fk, ⟨hF _ _ _ hM.1 (by omega), hF _ _ _ hM.2.1 (by omega), hF _ _ _ hM.2.2.1 (by omega), hF _ _ _ hM.2.2.2 (by omega)⟩, hV⟩
theorem QR.kr {X X1 : Hp} {b q n : Nat} {fi sz : Int} {g : Int → Int} (h : QR X b q n fi sz g) (hF : FR X X1) (hb : b + 10 ≤ 5000) : QR X1 b q n fi sz g := by
  obtain ⟨u, fq, hM, hV⟩ := h
  exact ⟨u, fq, ⟨hF _ _ _ hM.1 (by omega), hF _ _ _ hM.2 (by omega)⟩, hV⟩
theorem WR.kr {X X1 : Hp} {b y mk : Nat} {gn : Int} {r : Int → Int} (h : WR X b y mk gn r) (hF : FR X X1) (hb : b + 10 ≤ 5000) : WR X1 b y mk gn r := by
  obtain ⟨l, i, s, p, pc, sr, fl, ff, fs, fp, hM, hm, hV⟩ := h
  exact ⟨l, i, s, p, pc, sr, fl, ff, fs, fp, ⟨hF _ _ _ hM.1 (by omega), hF _ _ _ hM.2.1 (by omega), hF _ _ _ hM.2.2.1 (by omega), hF _ _ _ hM.2.2.2.1 (by omega), hF _ _ _ hM.2.2.2.2 (by omega)⟩, hm, hV⟩
theorem ST.kr {X X1 : Hp} {B st kap : Nat} {r : Int → Int} (h : ST X B st kap r) (hF : FR X X1) (hb : B + 300 ≤ 5000) : ST X1 B st kap r := by
  obtain ⟨g, ml, ws, va, qa, oe, dc, v, q, n, m_, z, fi, ⟨fv, fq, fo, fd, h1, h2, h3, h4, h5, h6, h7, h8, h9⟩, hV, hQ, hk⟩ := h
  exact ⟨g, ml, ws, va, qa, oe, dc, v, q, n, m_, z, fi, ⟨fv, fq, fo, fd, hF _ _ _ h1 (by omega), h2.kr hF (by omega), h3.kr hF (by omega), h4.kr hF (by omega), hF _ _ _ h5 (by omega), hF _ _ _ h6 (by omega), hF _ _ _ h7 (by omega), hF _ _ _ h8 (by omega), h9⟩, fun w w1 w2 => (hV w w1 w2).kr hF (by omega), fun w w1 w2 => (hQ w w1 w2).kr hF (by omega), hk⟩
theorem PP.kr {X X1 : Hp} {pt kap : Nat} {c : Int} {σ : St} (h : PP X pt kap c σ) (hF : FR X X1) : PP X1 pt kap c σ := by
  obtain ⟨ea, sa, y, st, B, mk, gn, kn, kr, ⟨ad, bs, kp, fs, rw_, h1, h2, h3, h4, h5, h6, h7⟩, hea, hWR, hgn, hST, hkap⟩ := h
  have b3 := h3
  unfold LB at b3
  refine ⟨ea, sa, y, st, B, mk, gn, kn, kr, ⟨ad, bs, kp, fs, rw_, hF _ _ _ h1 (by omega), hF _ _ _ h2 (by omega), h3, fun i i1 i2 => ⟨(h4 i i1 i2).1, (h4 i i1 i2).2.1, (h4 i i1 i2).2.2.kr hF ?_⟩, h5, h6, h7⟩, hF _ _ _ hea (by omega), hWR.kr hF (by omega), hgn, hST.kr hF (by omega), hkap⟩
  have b4 := (h4 i i1 i2).2.1.1
  unfold LB at b4
  omega
theorem PP.obj {X : Hp} {pt kap : Nat} {c : Int} {σ : St} (h : PP X pt kap c σ) : ∃ fl, X pt = some (0, ob 7 fl) := by
  obtain ⟨ea, sa, y, st, B, mk, gn, kn, kr, hO, -⟩ := h
  exact ⟨_, hO.pt.1⟩
theorem PP.le {X : Hp} {pt kap : Nat} {c : Int} {σ : St} (h : PP X pt kap c σ) : kap ≤ 392155 := by
  obtain ⟨ea, sa, y, st, B, mk, gn, kn, kr, hO, hea, hWR, hgn, hST, hkap⟩ := h
  have a1 := hO.le
  have a2 := hWR.mk
  have a3 := hST.le
  omega
/-- the reference's object holds a state -/
def MMx (X : Hp) (ad : Nat → Nat) (σ : St) : Prop := ∃ (sn lw rc wt : Int → Int) (wg : Int) (ls ac fi : Int → Int) (as : Int) (hh : Int64), MM X ad σ.1 σ.2.1 σ.2.2.1 σ.2.2.2 sn lw rc wt wg ls ac fi as hh
theorem MMx.keep {X X1 : Hp} {ad : Nat → Nat} {σ : St} (h : MMx X ad σ) (hF : FB 0 5000 X X1) : MMx X1 ad σ := by
  obtain ⟨sn, lw, rc, wt, wg, ls, ac, fi, as, hh, h0, h1, h2, h3, h4, h5, h6, h7, h8, h9, h10⟩ := h
  exact ⟨sn, lw, rc, wt, wg, ls, ac, fi, as, hh, hF _ _ _ h0 (by omega), hF _ _ _ h1 (by omega), hF _ _ _ h2 (by omega), hF _ _ _ h3 (by omega), hF _ _ _ h4 (by omega), hF _ _ _ h5 (by omega), hF _ _ _ h6 (by omega), hF _ _ _ h7 (by omega), hF _ _ _ h8 (by omega), hF _ _ _ h9 (by omega), hF _ _ _ h10 (by omega)⟩
theorem MX.x {X0 X : Hp} {ad : Nat → Nat} {σ : St} (h : MX X0 X ad σ) : MMx X ad σ ∧ FR X0 X := by
  obtain ⟨sn, lw, rc, wt, wg, ls, ac, fi, as, hh, h0, h1⟩ := h
  exact ⟨⟨sn, lw, rc, wt, wg, ls, ac, fi, as, hh, h0⟩, h1⟩
/-! the law's frame -/
def LwS (φ : Fi) (b L : Nat) (xs : Nat → Int32) : Prop := match φ with
  | ((_, _, _, R, s), (_, args, below, meth, _), _, _, A, Q, _) => va_X b L xs s s.heap ∧ b < s.heap.size ∧ A = (fun q => s.heap.size ≤ q) ∧ Q = lw_Z below #[Value.ref b] s ∧ args = #[Value.ref b] ∧ R = room_1 ∧ meth.sig.returnType = ret ∧ meth.locks = false
def sx (xs : Nat → Int32) (i : Int) : Int := (xs i.toNat).toInt
theorem sx_rg (xs : Nat → Int32) (i : Int) : -2147483648 ≤ sx xs i ∧ sx xs i ≤ 2147483647 := ja_rg _
section LAWRULES
variable {φ : Fi} {X : Hp} {kc ks pc : Nat} {lo : List (Option Value)} {st : List Value} {cc : ByteArray} {nL : Nat} {ow : String} {rt : Option FieldType} {nm : String} {fr lw KC KS : Nat} {b L : Nat} {xs : Nat → Int32}
theorem j_sld (hF : Fx φ cc nL ow rt nm fr lw KC KS) (hL : LwS φ b L xs) (hL0 : L ≤ 3072) {i : Int} (hd : decode cc pc = .ok (.iaload, 1)) (hi : 0 ≤ i ∧ i < L) (kk : Jd φ X kc ks (pc + 1) lo (vi (sx xs i) :: st)) : Jd φ X kc ks pc lo (vi i :: .ref b :: st) := by
  obtain ⟨⟨p, l, e, R, s⟩, ⟨m, args, below, meth, c⟩, D, cy, A, Q, X0⟩ := φ
  obtain ⟨f1, f2, f3, f4, f5, f6, f7, f8, f9, f10, f11⟩ := hF
  obtain ⟨q1, q2, q3, -⟩ := hL
  subst q3
  intro H locs ls hP hE hS hl
  refine va_sld f1 f2 q1 q2 (Nat.not_le.mpr q2) hS (ja_in hi.1 hi.2 (by omega)) hd ?_
  have e1 := ja_C (z := i) hi.1 (by omega)
  have e2 : xs (Int32.ofInt i).toNatClampNeg = Int32.ofInt (sx xs i) := by
    unfold sx
    rw [ja_self, show (Int32.ofInt i).toNatClampNeg = i.toNat by omega]
  rw [e2]
  exact kk H locs ls hP hE hS hl
theorem j_slen (hF : Fx φ cc nL ow rt nm fr lw KC KS) (hL : LwS φ b L xs) (hd : decode cc pc = .ok (.arraylength, 1)) (kk : Jd φ X kc ks (pc + 1) lo (vi (L : Int) :: st)) : Jd φ X kc ks pc lo (.ref b :: st) := by
  obtain ⟨⟨p, l, e, R, s⟩, ⟨m, args, below, meth, c⟩, D, cy, A, Q, X0⟩ := φ
  obtain ⟨f1, f2, f3, f4, f5, f6, f7, f8, f9, f10, f11⟩ := hF
  obtain ⟨q1, q2, q3, -⟩ := hL
  subst q3
  intro H locs ls hP hE hS hl
  exact va_slen f1 f2 q1 q2 (Nat.not_le.mpr q2) hS hd (kk H locs ls hP hE hS hl)
theorem j_andx (hF : Fx φ cc nL ow rt nm fr lw KC KS) {x y : Int32} (hd : decode cc pc = .ok (.iand, 1)) (kk : ∀ z : Int32, Jd φ X kc ks (pc + 1) lo (.int z :: st)) : Jd φ X kc ks pc lo (.int y :: .int x :: st) := by
  obtain ⟨⟨p, l, e, R, s⟩, ⟨m, args, below, meth, c⟩, D, cy, A, Q, X0⟩ := φ
  exact fun H locs ls a b d f => lv_iand hF.1 hF.2.1 hd (kk _ H locs ls a b d f)
theorem j_tsw (hF : Fx φ cc nL ow rt nm fr lw KC KS) {x : Int32} {dflt : Int} {offs : Array Int} {len : Nat} (hd : decode cc pc = .ok (.tableswitch dflt 0 24 offs, len)) (td : Nat) (htd : (pc : Int) + dflt = (td : Int)) (tg : Nat → Nat) (htg : ∀ k, k < 25 → offs[k]? = some ((tg k : Int) - (pc : Int))) (kd : Jd φ X kc ks td lo st) (kk : ∀ k, k < 25 → Jd φ X kc ks (tg k) lo st) : Jd φ X kc ks pc lo (.int x :: st) := by
  obtain ⟨⟨p, l, e, R, s⟩, ⟨m, args, below, meth, c⟩, D, cy, A, Q, X0⟩ := φ
  intro H locs ls a b d f
  by_cases h : x.toInt < 0 ∨ 24 < x.toInt
  · exact lv_tableOut hF.1 hF.2.1 hd h htd (kd H locs ls a b d f)
  · have h1 : (x.toInt - 0).toNat < 25 := by omega
    exact lv_tableIn hF.1 hF.2.1 hd (by omega) (by omega) (htg _ h1) (by omega) (kk _ h1 H locs ls a b d f)
theorem j_same (hF : Fx φ cc nL ow rt nm fr lw KC KS) {x : Int32} {off : Int} (tgt : Nat) (hd : decode cc pc = .ok (.if_icmp .eq off, 3)) (ht : (pc : Int) + off = (tgt : Int)) (kk : Jd φ X kc ks tgt lo st) : Jd φ X kc ks pc lo (.int x :: .int x :: st) := by
  obtain ⟨⟨p, l, e, R, s⟩, ⟨m, args, below, meth, c⟩, D, cy, A, Q, X0⟩ := φ
  exact fun H locs ls a b d f => lv_icmp_eq hF.1 hF.2.1 hd ht (fun _ => kk H locs ls a b d f) (fun h => absurd rfl h)
theorem lv_lcmp0 {p : Program} {l : Launch} {e : Env} {R : Room} {s : State} {m : MethodId} {args : Array Value} {below : List Frame} {meth : Method} {c : Code} {H : Heap} {locs : List Loc} {cells slots : Nat} {Q : State → Prop} {ls : Array Slot} {rest : List Value} (hexec : p.tables.exec = Jvm.exec) (hb : c.code = cc) {x : Int64} (hdg : decode cc pc = .ok (.lcmp, 1)) (k : W p l e R s m args below meth c H locs cells slots Q (F0 m (pc + 1) ls (.int 0 :: rest))) : W p l e R s m args below meth c H locs cells slots Q (F0 m pc ls (.long x :: .long x :: rest)) := by
  intro T hT X
  obtain ⟨t, a, b⟩ := k T hT X
  refine ⟨t, ?_, b⟩
  jvm_step X.here [X.here.top, hexec, hb, hdg, Int64.lt_irrefl]
  exact a
theorem j_lcmp0 (hF : Fx φ cc nL ow rt nm fr lw KC KS) {x : Int64} (hd : decode cc pc = .ok (.lcmp, 1)) (kk : Jd φ X kc ks (pc + 1) lo (vi 0 :: st)) : Jd φ X kc ks pc lo (.long x :: .long x :: st) := by
  obtain ⟨⟨p, l, e, R, s⟩, ⟨m, args, below, meth, c⟩, D, cy, A, Q, X0⟩ := φ
  exact fun H locs ls a b d f => lv_lcmp0 hF.1 hF.2.1 hd (kk H locs ls a b d f)
theorem j_lend {nL : Nat} {ow : String} {rt : Option FieldType} {nm : String} {fr lw KC KS : Nat} (hF : Fx φ cL_law nL ow rt nm fr lw KC KS) (hL : LwS φ b L xs) (hd : decode cL_law pc = .ok (.ireturn, 1)) (h1 : kc ≤ 600000) (h2 : ks ≤ 7302250) : Jd φ X kc ks pc lo [vi 1] := by
  obtain ⟨⟨p, l, e, R, s⟩, ⟨m, args, below, meth, c⟩, D, cy, A, Q, X0⟩ := φ
  obtain ⟨f1, f2, f3, f4, f5, f6, f7, f8, f9, f10, f11⟩ := hF
  obtain ⟨q1, q2, q3, q4, q5, q6, q7, q8⟩ := hL
  subst q3; subst q4; subst q5; subst q6
  intro H locs ls hP hE hS hl
  exact va_forget (fun q hq => hS.2.2 q hq) (W.widen h1 h2 (lw_ret f1 f2 q7 q8 hd))
end LAWRULES
theorem nw_kn {s : State} (hK : Kw s) {ow : String} {idx ci : Nat} {fs : List Value} (h : NW ow idx ci fs) : ∃ (cC : ClassId) (iS : Nat → Nat), ∀ q : vw_C, vwCl[ci]? = some q → u_Kn s q.1 q.2.1 q.2.2 cC iS := by
  obtain ⟨C, T, ty, h1, h2, h3, h4, h5, h6, h7⟩ := h
  obtain ⟨cC, iS, hk⟩ := u_known (ws := u_ws C T fs.length) (s := s) (args := #[]) (C := C) (T := T) (N := fs.length) (n := fs.length) (fun w hw => hK.at (h2 w hw) _) (fun w hw => hw) (hK.at h5 _)
  exact ⟨cC, iS, fun q hq => by rw [h1] at hq; cases hq; exact hk⟩
theorem arr_kn {s : State} (hK : Kw s) {ty : FieldType} (h : Cond.arrayClass ty ∈ lw_tbl) (hr : ∀ cA : ClassId, s.vm.findClass ("[" ++ ty.toString) = some cA → va_RA s cA ty) : ∃ cA : ClassId, ArrOfT s cA ty ∧ va_RA s cA ty := by
  obtain ⟨cA, kA, comp, h1, h2, h3⟩ := Cond.arrayClass_spec (hK.at ⟨h, rfl⟩ #[])
  exact ⟨cA, fun n z => ⟨fun k h => (by cases h), kA, h2, comp, h3⟩, hr cA h1⟩
theorem arr_kq {s : State} (hK : Kw s) {C : String} (h : Cond.arrayOver (.object C) ∈ lw_tbl) : ∃ cA : ClassId, ArrOfT s cA (.object C) ∧ va_RA s cA (.object C) := by
  obtain ⟨comp, cA, kA, h1, h2, h3, h4, h5⟩ := Cond.arrayOver_spec (hK.at ⟨h, rfl⟩ #[])
  exact ⟨cA, fun n z => ⟨fun k h => (by cases h), kA, h3, comp, h4⟩, kA, comp, h3, h4, h1, h5⟩

