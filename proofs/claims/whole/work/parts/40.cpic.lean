/-- cells of labels outside lo .. hi stay -/
def FB (lo hi : Nat) (X X' : Hp) : Prop := ∀ (a l : Nat) (c : Cel), X a = some (l, c) → (l < lo ∨ hi ≤ l) → X' a = some (l, c)
theorem FB.refl (lo hi : Nat) (X : Hp) : FB lo hi X X := fun _ _ _ h _ => h
theorem FB.trans {lo hi : Nat} {X Y Z : Hp} (h : FB lo hi X Y) (g : FB lo hi Y Z) : FB lo hi X Z := fun a l c hx hl => g a l c (h a l c hx hl) hl
theorem FB.up {lo hi : Nat} {X X1 : Hp} {a l : Nat} {c : Cel} {v : Option (Nat × Cel)} (e : X1 = va_up X a v) (h : X a = some (l, c)) (h1 : lo ≤ l) (h2 : l < hi) : FB lo hi X X1 := fun b lb cb hb hlb => upx e hb h (by omega)
theorem FB.new {lo hi : Nat} {X X1 : Hp} {q : Nat} {v : Option (Nat × Cel)} (e : X1 = va_up X q v) (h : X q = none) : FB lo hi X X1 := fun b lb cb hb _ => upn e hb h
theorem FB.mono {lo hi lo' hi' : Nat} {X Y : Hp} (h : FB lo hi X Y) (h1 : lo' ≤ lo) (h2 : hi ≤ hi') : FB lo' hi' X Y := fun a l c hx hl => h a l c hx (by omega)
def GP (X : Hp) (b : Nat) (g d s e k : Nat) (nc ec : Int) (fd fs fe fk : Int → Int) : Prop :=
  X g = some (b, ob 0 [vi nc, vi ec, .ref d, .ref s, .ref e, .ref k])
  ∧ X d = some (b + 1, ia 0 6 fd)
  ∧ X s = some (b + 2, ia 0 11 fs)
  ∧ X e = some (b + 3, ia 0 11 fe)
  ∧ X k = some (b + 4, ia 0 11 fk)
def GPG (X0 X : Hp) (b : Nat) (g d s e k : Nat) (nc ec : Int) (fd fs fe fk : Int → Int) : Prop := GP X b g d s e k nc ec fd fs fe fk ∧ FB b (b + 10) X0 X
section
variable {X0 X X1 : Hp} {b : Nat} {g d s e k : Nat} {nc ec : Int} {fd fs fe fk : Int → Int}
theorem GP.gg (h : GP X b g d s e k nc ec fd fs fe fk) : GPG X X b g d s e k nc ec fd fs fe fk := ⟨h, FB.refl _ _ X⟩
theorem GPG.u_fd (hM : GPG X0 X b g d s e k nc ec fd fs fe fk) {z : Int → Int} (e_ : X1 = va_up X d (some (b + 1, ia 0 6 z))) : GPG X0 X1 b g d s e k nc ec z fs fe fk :=
  ⟨⟨upx e_ hM.1.1 hM.1.2.1 (by omega), ups e_, upx e_ hM.1.2.2.1 hM.1.2.1 (by omega), upx e_ hM.1.2.2.2.1 hM.1.2.1 (by omega), upx e_ hM.1.2.2.2.2 hM.1.2.1 (by omega)⟩, hM.2.trans (FB.up e_ hM.1.2.1 (by omega) (by omega))⟩
theorem GPG.u_fs (hM : GPG X0 X b g d s e k nc ec fd fs fe fk) {z : Int → Int} (e_ : X1 = va_up X s (some (b + 2, ia 0 11 z))) : GPG X0 X1 b g d s e k nc ec fd z fe fk :=
  ⟨⟨upx e_ hM.1.1 hM.1.2.2.1 (by omega), upx e_ hM.1.2.1 hM.1.2.2.1 (by omega), ups e_, upx e_ hM.1.2.2.2.1 hM.1.2.2.1 (by omega), upx e_ hM.1.2.2.2.2 hM.1.2.2.1 (by omega)⟩, hM.2.trans (FB.up e_ hM.1.2.2.1 (by omega) (by omega))⟩
theorem GPG.u_fe (hM : GPG X0 X b g d s e k nc ec fd fs fe fk) {z : Int → Int} (e_ : X1 = va_up X e (some (b + 3, ia 0 11 z))) : GPG X0 X1 b g d s e k nc ec fd fs z fk :=
  ⟨⟨upx e_ hM.1.1 hM.1.2.2.2.1 (by omega), upx e_ hM.1.2.1 hM.1.2.2.2.1 (by omega), upx e_ hM.1.2.2.1 hM.1.2.2.2.1 (by omega), ups e_, upx e_ hM.1.2.2.2.2 hM.1.2.2.2.1 (by omega)⟩, hM.2.trans (FB.up e_ hM.1.2.2.2.1 (by omega) (by omega))⟩
theorem GPG.u_fk (hM : GPG X0 X b g d s e k nc ec fd fs fe fk) {z : Int → Int} (e_ : X1 = va_up X k (some (b + 4, ia 0 11 z))) : GPG X0 X1 b g d s e k nc ec fd fs fe z :=
  ⟨⟨upx e_ hM.1.1 hM.1.2.2.2.2 (by omega), upx e_ hM.1.2.1 hM.1.2.2.2.2 (by omega), upx e_ hM.1.2.2.1 hM.1.2.2.2.2 (by omega), upx e_ hM.1.2.2.2.1 hM.1.2.2.2.2 (by omega), ups e_⟩, hM.2.trans (FB.up e_ hM.1.2.2.2.2 (by omega) (by omega))⟩
theorem GPG.u_nc (hM : GPG X0 X b g d s e k nc ec fd fs fe fk) {z : Int} (e_ : X1 = va_up X g (some (b, ob 0 ([vi nc, vi ec, .ref d, .ref s, .ref e, .ref k].set 0 (vi z))))) : GPG X0 X1 b g d s e k z ec fd fs fe fk :=
  ⟨⟨ups e_, upx e_ hM.1.2.1 hM.1.1 (by omega), upx e_ hM.1.2.2.1 hM.1.1 (by omega), upx e_ hM.1.2.2.2.1 hM.1.1 (by omega), upx e_ hM.1.2.2.2.2 hM.1.1 (by omega)⟩, hM.2.trans (FB.up e_ hM.1.1 (by omega) (by omega))⟩
theorem GPG.u_ec (hM : GPG X0 X b g d s e k nc ec fd fs fe fk) {z : Int} (e_ : X1 = va_up X g (some (b, ob 0 ([vi nc, vi ec, .ref d, .ref s, .ref e, .ref k].set 1 (vi z))))) : GPG X0 X1 b g d s e k nc z fd fs fe fk :=
  ⟨⟨ups e_, upx e_ hM.1.2.1 hM.1.1 (by omega), upx e_ hM.1.2.2.1 hM.1.1 (by omega), upx e_ hM.1.2.2.2.1 hM.1.1 (by omega), upx e_ hM.1.2.2.2.2 hM.1.1 (by omega)⟩, hM.2.trans (FB.up e_ hM.1.1 (by omega) (by omega))⟩
theorem GP.keep (h : GP X b g d s e k nc ec fd fs fe fk) {lo hi : Nat} (hF : FB lo hi X X1) (hd : b + 10 ≤ lo ∨ hi ≤ b) : GP X1 b g d s e k nc ec fd fs fe fk :=
  ⟨hF _ _ _ h.1 (by omega), hF _ _ _ h.2.1 (by omega), hF _ _ _ h.2.2.1 (by omega), hF _ _ _ h.2.2.2.1 (by omega), hF _ _ _ h.2.2.2.2 (by omega)⟩
theorem GPG.tr {g' d' s' e' k' : Nat} {nc' ec' : Int} {fd' fs' fe' fk' : Int → Int} (h : GPG X0 X b g d s e k nc ec fd fs fe fk) (g_ : GPG X X1 b g' d' s' e' k' nc' ec' fd' fs' fe' fk') : GPG X0 X1 b g' d' s' e' k' nc' ec' fd' fs' fe' fk' := ⟨g_.1, h.2.trans g_.2⟩
end
def MP (X : Hp) (b : Nat) (ml mz mt : Nat) (fz ft : Int → Int) : Prop :=
  X ml = some (b, ob 1 [.ref mz, .ref mt])
  ∧ X mz = some (b + 1, ia 0 20 fz)
  ∧ X mt = some (b + 2, ia 0 240 ft)
def MPG (X0 X : Hp) (b : Nat) (ml mz mt : Nat) (fz ft : Int → Int) : Prop := MP X b ml mz mt fz ft ∧ FB b (b + 10) X0 X
section
variable {X0 X X1 : Hp} {b : Nat} {ml mz mt : Nat} {fz ft : Int → Int}
theorem MP.gg (h : MP X b ml mz mt fz ft) : MPG X X b ml mz mt fz ft := ⟨h, FB.refl _ _ X⟩
theorem MPG.u_fz (hM : MPG X0 X b ml mz mt fz ft) {z : Int → Int} (e_ : X1 = va_up X mz (some (b + 1, ia 0 20 z))) : MPG X0 X1 b ml mz mt z ft :=
  ⟨⟨upx e_ hM.1.1 hM.1.2.1 (by omega), ups e_, upx e_ hM.1.2.2 hM.1.2.1 (by omega)⟩, hM.2.trans (FB.up e_ hM.1.2.1 (by omega) (by omega))⟩
theorem MPG.u_ft (hM : MPG X0 X b ml mz mt fz ft) {z : Int → Int} (e_ : X1 = va_up X mt (some (b + 2, ia 0 240 z))) : MPG X0 X1 b ml mz mt fz z :=
  ⟨⟨upx e_ hM.1.1 hM.1.2.2 (by omega), upx e_ hM.1.2.1 hM.1.2.2 (by omega), ups e_⟩, hM.2.trans (FB.up e_ hM.1.2.2 (by omega) (by omega))⟩
theorem MP.keep (h : MP X b ml mz mt fz ft) {lo hi : Nat} (hF : FB lo hi X X1) (hd : b + 10 ≤ lo ∨ hi ≤ b) : MP X1 b ml mz mt fz ft :=
  ⟨hF _ _ _ h.1 (by omega), hF _ _ _ h.2.1 (by omega), hF _ _ _ h.2.2 (by omega)⟩
theorem MPG.tr {ml' mz' mt' : Nat} {fz' ft' : Int → Int} (h : MPG X0 X b ml mz mt fz ft) (g_ : MPG X X1 b ml' mz' mt' fz' ft') : MPG X0 X1 b ml' mz' mt' fz' ft' := ⟨g_.1, h.2.trans g_.2⟩
end
def WP (X : Hp) (b : Nat) (ws wz wt : Nat) (fz ft : Int → Int) : Prop :=
  X ws = some (b, ob 6 [.ref wz, .ref wt])
  ∧ X wz = some (b + 1, ia 0 2 fz)
  ∧ X wt = some (b + 2, ia 0 24 ft)
def WPG (X0 X : Hp) (b : Nat) (ws wz wt : Nat) (fz ft : Int → Int) : Prop := WP X b ws wz wt fz ft ∧ FB b (b + 10) X0 X
section
variable {X0 X X1 : Hp} {b : Nat} {ws wz wt : Nat} {fz ft : Int → Int}
theorem WP.gg (h : WP X b ws wz wt fz ft) : WPG X X b ws wz wt fz ft := ⟨h, FB.refl _ _ X⟩
theorem WPG.u_fz (hM : WPG X0 X b ws wz wt fz ft) {z : Int → Int} (e_ : X1 = va_up X wz (some (b + 1, ia 0 2 z))) : WPG X0 X1 b ws wz wt z ft :=
  ⟨⟨upx e_ hM.1.1 hM.1.2.1 (by omega), ups e_, upx e_ hM.1.2.2 hM.1.2.1 (by omega)⟩, hM.2.trans (FB.up e_ hM.1.2.1 (by omega) (by omega))⟩
theorem WPG.u_ft (hM : WPG X0 X b ws wz wt fz ft) {z : Int → Int} (e_ : X1 = va_up X wt (some (b + 2, ia 0 24 z))) : WPG X0 X1 b ws wz wt fz z :=
  ⟨⟨upx e_ hM.1.1 hM.1.2.2 (by omega), upx e_ hM.1.2.1 hM.1.2.2 (by omega), ups e_⟩, hM.2.trans (FB.up e_ hM.1.2.2 (by omega) (by omega))⟩
theorem WP.keep (h : WP X b ws wz wt fz ft) {lo hi : Nat} (hF : FB lo hi X X1) (hd : b + 10 ≤ lo ∨ hi ≤ b) : WP X1 b ws wz wt fz ft :=
  ⟨hF _ _ _ h.1 (by omega), hF _ _ _ h.2.1 (by omega), hF _ _ _ h.2.2 (by omega)⟩
theorem WPG.tr {ws' wz' wt' : Nat} {fz' ft' : Int → Int} (h : WPG X0 X b ws wz wt fz ft) (g_ : WPG X X1 b ws' wz' wt' fz' ft') : WPG X0 X1 b ws' wz' wt' fz' ft' := ⟨g_.1, h.2.trans g_.2⟩
end
def VP (X : Hp) (b : Nat) (v s c k : Nat) (n : Nat) (sz : Int) (fs fv fk : Int → Int) : Prop :=
  X v = some (b, ob 4 [vi sz, .ref s, .ref c, .ref k])
  ∧ X s = some (b + 1, ia 0 n fs)
  ∧ X c = some (b + 2, ia 0 n fv)
  ∧ X k = some (b + 3, ia 0 n fk)
def VPG (X0 X : Hp) (b : Nat) (v s c k : Nat) (n : Nat) (sz : Int) (fs fv fk : Int → Int) : Prop := VP X b v s c k n sz fs fv fk ∧ FB b (b + 10) X0 X
section
variable {X0 X X1 : Hp} {b : Nat} {v s c k : Nat} {n : Nat} {sz : Int} {fs fv fk : Int → Int}
theorem VP.gg (h : VP X b v s c k n sz fs fv fk) : VPG X X b v s c k n sz fs fv fk := ⟨h, FB.refl _ _ X⟩
theorem VPG.u_fs (hM : VPG X0 X b v s c k n sz fs fv fk) {z : Int → Int} (e_ : X1 = va_up X s (some (b + 1, ia 0 n z))) : VPG X0 X1 b v s c k n sz z fv fk :=
  ⟨⟨upx e_ hM.1.1 hM.1.2.1 (by omega), ups e_, upx e_ hM.1.2.2.1 hM.1.2.1 (by omega), upx e_ hM.1.2.2.2 hM.1.2.1 (by omega)⟩, hM.2.trans (FB.up e_ hM.1.2.1 (by omega) (by omega))⟩
theorem VPG.u_fv (hM : VPG X0 X b v s c k n sz fs fv fk) {z : Int → Int} (e_ : X1 = va_up X c (some (b + 2, ia 0 n z))) : VPG X0 X1 b v s c k n sz fs z fk :=
  ⟨⟨upx e_ hM.1.1 hM.1.2.2.1 (by omega), upx e_ hM.1.2.1 hM.1.2.2.1 (by omega), ups e_, upx e_ hM.1.2.2.2 hM.1.2.2.1 (by omega)⟩, hM.2.trans (FB.up e_ hM.1.2.2.1 (by omega) (by omega))⟩
theorem VPG.u_fk (hM : VPG X0 X b v s c k n sz fs fv fk) {z : Int → Int} (e_ : X1 = va_up X k (some (b + 3, ia 0 n z))) : VPG X0 X1 b v s c k n sz fs fv z :=
  ⟨⟨upx e_ hM.1.1 hM.1.2.2.2 (by omega), upx e_ hM.1.2.1 hM.1.2.2.2 (by omega), upx e_ hM.1.2.2.1 hM.1.2.2.2 (by omega), ups e_⟩, hM.2.trans (FB.up e_ hM.1.2.2.2 (by omega) (by omega))⟩
theorem VPG.u_sz (hM : VPG X0 X b v s c k n sz fs fv fk) {z : Int} (e_ : X1 = va_up X v (some (b, ob 4 ([vi sz, .ref s, .ref c, .ref k].set 0 (vi z))))) : VPG X0 X1 b v s c k n z fs fv fk :=
  ⟨⟨ups e_, upx e_ hM.1.2.1 hM.1.1 (by omega), upx e_ hM.1.2.2.1 hM.1.1 (by omega), upx e_ hM.1.2.2.2 hM.1.1 (by omega)⟩, hM.2.trans (FB.up e_ hM.1.1 (by omega) (by omega))⟩
theorem VP.keep (h : VP X b v s c k n sz fs fv fk) {lo hi : Nat} (hF : FB lo hi X X1) (hd : b + 10 ≤ lo ∨ hi ≤ b) : VP X1 b v s c k n sz fs fv fk :=
  ⟨hF _ _ _ h.1 (by omega), hF _ _ _ h.2.1 (by omega), hF _ _ _ h.2.2.1 (by omega), hF _ _ _ h.2.2.2 (by omega)⟩
theorem VPG.tr {v' s' c' k' : Nat} {n' : Nat} {sz' : Int} {fs' fv' fk' : Int → Int} (h : VPG X0 X b v s c k n sz fs fv fk) (g_ : VPG X X1 b v' s' c' k' n' sz' fs' fv' fk') : VPG X0 X1 b v' s' c' k' n' sz' fs' fv' fk' := ⟨g_.1, h.2.trans g_.2⟩
end
def QP (X : Hp) (b : Nat) (q u : Nat) (n : Nat) (fi sz : Int) (fq : Int → Int) : Prop :=
  X q = some (b, ob 3 [vi fi, vi sz, .ref u])
  ∧ X u = some (b + 1, ia 0 n fq)
def QPG (X0 X : Hp) (b : Nat) (q u : Nat) (n : Nat) (fi sz : Int) (fq : Int → Int) : Prop := QP X b q u n fi sz fq ∧ FB b (b + 10) X0 X
section
variable {X0 X X1 : Hp} {b : Nat} {q u : Nat} {n : Nat} {fi sz : Int} {fq : Int → Int}
theorem QP.gg (h : QP X b q u n fi sz fq) : QPG X X b q u n fi sz fq := ⟨h, FB.refl _ _ X⟩
theorem QPG.u_fq (hM : QPG X0 X b q u n fi sz fq) {z : Int → Int} (e_ : X1 = va_up X u (some (b + 1, ia 0 n z))) : QPG X0 X1 b q u n fi sz z :=
  ⟨⟨upx e_ hM.1.1 hM.1.2 (by omega), ups e_⟩, hM.2.trans (FB.up e_ hM.1.2 (by omega) (by omega))⟩
theorem QPG.u_fi (hM : QPG X0 X b q u n fi sz fq) {z : Int} (e_ : X1 = va_up X q (some (b, ob 3 ([vi fi, vi sz, .ref u].set 0 (vi z))))) : QPG X0 X1 b q u n z sz fq :=
  ⟨⟨ups e_, upx e_ hM.1.2 hM.1.1 (by omega)⟩, hM.2.trans (FB.up e_ hM.1.1 (by omega) (by omega))⟩
theorem QPG.u_sz (hM : QPG X0 X b q u n fi sz fq) {z : Int} (e_ : X1 = va_up X q (some (b, ob 3 ([vi fi, vi sz, .ref u].set 1 (vi z))))) : QPG X0 X1 b q u n fi z fq :=
  ⟨⟨ups e_, upx e_ hM.1.2 hM.1.1 (by omega)⟩, hM.2.trans (FB.up e_ hM.1.1 (by omega) (by omega))⟩
theorem QP.keep (h : QP X b q u n fi sz fq) {lo hi : Nat} (hF : FB lo hi X X1) (hd : b + 10 ≤ lo ∨ hi ≤ b) : QP X1 b q u n fi sz fq :=
  ⟨hF _ _ _ h.1 (by omega), hF _ _ _ h.2 (by omega)⟩
theorem QPG.tr {q' u' : Nat} {n' : Nat} {fi' sz' : Int} {fq' : Int → Int} (h : QPG X0 X b q u n fi sz fq) (g_ : QPG X X1 b q' u' n' fi' sz' fq') : QPG X0 X1 b q' u' n' fi' sz' fq' := ⟨g_.1, h.2.trans g_.2⟩
end
def YP (X : Hp) (b : Nat) (y l i s p : Nat) (n1 n2 n3 n4 : Nat) (pc gn sr : Int) (fl ff fs fp : Int → Int) : Prop :=
  X y = some (b, ob 5 [.ref l, .ref i, .ref s, .ref p, vi pc, vi gn, vi sr])
  ∧ X l = some (b + 1, ia 0 n1 fl)
  ∧ X i = some (b + 2, ia 0 n2 ff)
  ∧ X s = some (b + 3, ia 0 n3 fs)
  ∧ X p = some (b + 4, ia 0 n4 fp)
def YPG (X0 X : Hp) (b : Nat) (y l i s p : Nat) (n1 n2 n3 n4 : Nat) (pc gn sr : Int) (fl ff fs fp : Int → Int) : Prop := YP X b y l i s p n1 n2 n3 n4 pc gn sr fl ff fs fp ∧ FB b (b + 10) X0 X
section
variable {X0 X X1 : Hp} {b : Nat} {y l i s p : Nat} {n1 n2 n3 n4 : Nat} {pc gn sr : Int} {fl ff fs fp : Int → Int}
theorem YP.gg (h : YP X b y l i s p n1 n2 n3 n4 pc gn sr fl ff fs fp) : YPG X X b y l i s p n1 n2 n3 n4 pc gn sr fl ff fs fp := ⟨h, FB.refl _ _ X⟩
theorem YPG.u_fl (hM : YPG X0 X b y l i s p n1 n2 n3 n4 pc gn sr fl ff fs fp) {z : Int → Int} (e_ : X1 = va_up X l (some (b + 1, ia 0 n1 z))) : YPG X0 X1 b y l i s p n1 n2 n3 n4 pc gn sr z ff fs fp :=
  ⟨⟨upx e_ hM.1.1 hM.1.2.1 (by omega), ups e_, upx e_ hM.1.2.2.1 hM.1.2.1 (by omega), upx e_ hM.1.2.2.2.1 hM.1.2.1 (by omega), upx e_ hM.1.2.2.2.2 hM.1.2.1 (by omega)⟩, hM.2.trans (FB.up e_ hM.1.2.1 (by omega) (by omega))⟩
theorem YPG.u_ff (hM : YPG X0 X b y l i s p n1 n2 n3 n4 pc gn sr fl ff fs fp) {z : Int → Int} (e_ : X1 = va_up X i (some (b + 2, ia 0 n2 z))) : YPG X0 X1 b y l i s p n1 n2 n3 n4 pc gn sr fl z fs fp :=
  ⟨⟨upx e_ hM.1.1 hM.1.2.2.1 (by omega), upx e_ hM.1.2.1 hM.1.2.2.1 (by omega), ups e_, upx e_ hM.1.2.2.2.1 hM.1.2.2.1 (by omega), upx e_ hM.1.2.2.2.2 hM.1.2.2.1 (by omega)⟩, hM.2.trans (FB.up e_ hM.1.2.2.1 (by omega) (by omega))⟩
theorem YPG.u_fs (hM : YPG X0 X b y l i s p n1 n2 n3 n4 pc gn sr fl ff fs fp) {z : Int → Int} (e_ : X1 = va_up X s (some (b + 3, ia 0 n3 z))) : YPG X0 X1 b y l i s p n1 n2 n3 n4 pc gn sr fl ff z fp :=
  ⟨⟨upx e_ hM.1.1 hM.1.2.2.2.1 (by omega), upx e_ hM.1.2.1 hM.1.2.2.2.1 (by omega), upx e_ hM.1.2.2.1 hM.1.2.2.2.1 (by omega), ups e_, upx e_ hM.1.2.2.2.2 hM.1.2.2.2.1 (by omega)⟩, hM.2.trans (FB.up e_ hM.1.2.2.2.1 (by omega) (by omega))⟩
theorem YPG.u_fp (hM : YPG X0 X b y l i s p n1 n2 n3 n4 pc gn sr fl ff fs fp) {z : Int → Int} (e_ : X1 = va_up X p (some (b + 4, ia 0 n4 z))) : YPG X0 X1 b y l i s p n1 n2 n3 n4 pc gn sr fl ff fs z :=
  ⟨⟨upx e_ hM.1.1 hM.1.2.2.2.2 (by omega), upx e_ hM.1.2.1 hM.1.2.2.2.2 (by omega), upx e_ hM.1.2.2.1 hM.1.2.2.2.2 (by omega), upx e_ hM.1.2.2.2.1 hM.1.2.2.2.2 (by omega), ups e_⟩, hM.2.trans (FB.up e_ hM.1.2.2.2.2 (by omega) (by omega))⟩
theorem YPG.u_pc (hM : YPG X0 X b y l i s p n1 n2 n3 n4 pc gn sr fl ff fs fp) {z : Int} (e_ : X1 = va_up X y (some (b, ob 5 ([.ref l, .ref i, .ref s, .ref p, vi pc, vi gn, vi sr].set 4 (vi z))))) : YPG X0 X1 b y l i s p n1 n2 n3 n4 z gn sr fl ff fs fp :=
  ⟨⟨ups e_, upx e_ hM.1.2.1 hM.1.1 (by omega), upx e_ hM.1.2.2.1 hM.1.1 (by omega), upx e_ hM.1.2.2.2.1 hM.1.1 (by omega), upx e_ hM.1.2.2.2.2 hM.1.1 (by omega)⟩, hM.2.trans (FB.up e_ hM.1.1 (by omega) (by omega))⟩
theorem YPG.u_gn (hM : YPG X0 X b y l i s p n1 n2 n3 n4 pc gn sr fl ff fs fp) {z : Int} (e_ : X1 = va_up X y (some (b, ob 5 ([.ref l, .ref i, .ref s, .ref p, vi pc, vi gn, vi sr].set 5 (vi z))))) : YPG X0 X1 b y l i s p n1 n2 n3 n4 pc z sr fl ff fs fp :=
  ⟨⟨ups e_, upx e_ hM.1.2.1 hM.1.1 (by omega), upx e_ hM.1.2.2.1 hM.1.1 (by omega), upx e_ hM.1.2.2.2.1 hM.1.1 (by omega), upx e_ hM.1.2.2.2.2 hM.1.1 (by omega)⟩, hM.2.trans (FB.up e_ hM.1.1 (by omega) (by omega))⟩
theorem YPG.u_sr (hM : YPG X0 X b y l i s p n1 n2 n3 n4 pc gn sr fl ff fs fp) {z : Int} (e_ : X1 = va_up X y (some (b, ob 5 ([.ref l, .ref i, .ref s, .ref p, vi pc, vi gn, vi sr].set 6 (vi z))))) : YPG X0 X1 b y l i s p n1 n2 n3 n4 pc gn z fl ff fs fp :=
  ⟨⟨ups e_, upx e_ hM.1.2.1 hM.1.1 (by omega), upx e_ hM.1.2.2.1 hM.1.1 (by omega), upx e_ hM.1.2.2.2.1 hM.1.1 (by omega), upx e_ hM.1.2.2.2.2 hM.1.1 (by omega)⟩, hM.2.trans (FB.up e_ hM.1.1 (by omega) (by omega))⟩
theorem YP.keep (h : YP X b y l i s p n1 n2 n3 n4 pc gn sr fl ff fs fp) {lo hi : Nat} (hF : FB lo hi X X1) (hd : b + 10 ≤ lo ∨ hi ≤ b) : YP X1 b y l i s p n1 n2 n3 n4 pc gn sr fl ff fs fp :=
  ⟨hF _ _ _ h.1 (by omega), hF _ _ _ h.2.1 (by omega), hF _ _ _ h.2.2.1 (by omega), hF _ _ _ h.2.2.2.1 (by omega), hF _ _ _ h.2.2.2.2 (by omega)⟩
theorem YPG.tr {y' l' i' s' p' : Nat} {n1' n2' n3' n4' : Nat} {pc' gn' sr' : Int} {fl' ff' fs' fp' : Int → Int} (h : YPG X0 X b y l i s p n1 n2 n3 n4 pc gn sr fl ff fs fp) (g_ : YPG X X1 b y' l' i' s' p' n1' n2' n3' n4' pc' gn' sr' fl' ff' fs' fp') : YPG X0 X1 b y' l' i' s' p' n1' n2' n3' n4' pc' gn' sr' fl' ff' fs' fp' := ⟨g_.1, h.2.trans g_.2⟩
end
