/-! names for what a write leaves -/
theorem j_nm {φ : Fi} {Y : Hp} {kc ks pc : Nat} {lo : List (Option Value)} {st : List Value} (kk : ∀ X1, X1 = Y → Jd φ X1 kc ks pc lo st) : Jd φ Y kc ks pc lo st := kk Y rfl
theorem upx {X X1 : Hp} {a a' l l' : Nat} {c c' : Cel} {v : Option (Nat × Cel)} (e : X1 = va_up X a' v) (h : X a = some (l, c)) (h' : X a' = some (l', c')) (hne : l ≠ l') : X1 a = some (l, c) := e ▸ ux h h' hne
theorem ups {X X1 : Hp} {a : Nat} {v : Option (Nat × Cel)} (e : X1 = va_up X a v) : X1 a = v := e ▸ us
theorem upn {X X1 : Hp} {a q : Nat} {z : Nat × Cel} {v : Option (Nat × Cel)} (e : X1 = va_up X q v) (h : X a = some z) (hq : X q = none) : X1 a = some z := e ▸ un h hq
theorem bz_r1 {p : Prop} (h : p) : some (vi 1) = some (vi (bz p)) := by rw [bz_t h]
theorem bz_r0 {p : Prop} (h : ¬ p) : some (vi 0) = some (vi (bz p)) := by rw [bz_f h]
