/-! State -/
theorem VR.cong {X : Hp} {b v n : Nat} {sz : Int} {f f' : Int → Int} (h : VR X b v n sz f) (e : ∀ x, 0 ≤ x → x < 16000 → f' x = f x) : VR X b v n sz f' := by
  obtain ⟨s, c, k, fs, fv, fk, hM, ⟨h0, h1, h2, h3⟩, hn⟩ := h
  refine ⟨s, c, k, fs, fv, fk, hM, ⟨h0, fun i i1 i2 => ?_, h2, fun x x1 x2 x3 => h3 x x1 x2 (by rw [← e x x1 x2]; exact x3)⟩, hn⟩
  have q := h1 i i1 i2
  rw [e _ q.1.1 q.1.2]; exact q
theorem QR.cong {X : Hp} {b q n : Nat} {fi sz : Int} {g g' : Int → Int} (h : QR X b q n fi sz g) (e : ∀ i, 0 ≤ i → i < sz → g' i = g i) : QR X b q n fi sz g' := by
  obtain ⟨u, fq, hM, h1, h2⟩ := h
  exact ⟨u, fq, hM, fun i i1 i2 => by rw [e i i1 i2]; exact h1 i i1 i2, h2⟩
def GR (X : Hp) (b g : Nat) (r : Int → Int) : Prop := ∃ d s e k nc ec fd fs fe fk, GP X b g d s e k nc ec fd fs fe fk ∧ GE r nc ec fd fs fe fk
def MR (X : Hp) (b ml : Nat) (r : Int → Int) : Prop := ∃ mz mt fz ft, MP X b ml mz mt fz ft ∧ (∀ j, 0 ≤ j → j < 20 → fz j = r (47 + j)) ∧ (∀ j, 0 ≤ j → j < 240 → ft j = r (67 + j))
/-- the requests of a worker, as a bag -/
def HS (r ft : Int → Int) (w : Int) : Prop := ∀ x, cf (fun i => if ft (12 * w + i) = x then 1 else 0) (r (307 + w)).toNat = cf (fun i => if 1000 * r (309 + (12 * w + i)) + r (333 + (12 * w + i)) = x then 1 else 0) (r (307 + w)).toNat
def HR (X : Hp) (b ws : Nat) (r : Int → Int) : Prop := ∃ wz wt fz ft, WP X b ws wz wt fz ft ∧ ∀ w, 0 ≤ w → w ≤ 1 → fz w = r (307 + w) ∧ HS r ft w
/-- the greatest delivered counters of a node and epoch -/
def DR (r fd : Int → Int) : Prop := ∀ nd ep, 0 ≤ nd → nd < 6 → 0 ≤ ep → ep < 10 → (fd (10 * nd + ep) = -1 ∧ ∀ c, 0 ≤ c → c ≤ 99 → ¬ r (359 + 1000 * nd + (100 * ep + c)) = 1) ∨ ((0 ≤ fd (10 * nd + ep) ∧ fd (10 * nd + ep) ≤ 99) ∧ r (359 + 1000 * nd + (100 * ep + fd (10 * nd + ep))) = 1 ∧ ∀ c, 0 ≤ c → c ≤ 99 → r (359 + 1000 * nd + (100 * ep + c)) = 1 → c ≤ fd (10 * nd + ep))
theorem GR.keep {X X1 : Hp} {b g : Nat} {r : Int → Int} (h : GR X b g r) {lo hi : Nat} (hF : FB lo hi X X1) (hd : b + 10 ≤ lo ∨ hi ≤ b) : GR X1 b g r := by
  obtain ⟨d, s, e, k, nc, ec, fd, fs, fe, fk, hM, hV⟩ := h
  exact ⟨d, s, e, k, nc, ec, fd, fs, fe, fk, hM.keep hF hd, hV⟩
theorem MR.keep {X X1 : Hp} {b ml : Nat} {r : Int → Int} (h : MR X b ml r) {lo hi : Nat} (hF : FB lo hi X X1) (hd : b + 10 ≤ lo ∨ hi ≤ b) : MR X1 b ml r := by
  obtain ⟨mz, mt, fz, ft, hM, hV⟩ := h
  exact ⟨mz, mt, fz, ft, hM.keep hF hd, hV⟩
theorem HR.keep {X X1 : Hp} {b ws : Nat} {r : Int → Int} (h : HR X b ws r) {lo hi : Nat} (hF : FB lo hi X X1) (hd : b + 10 ≤ lo ∨ hi ≤ b) : HR X1 b ws r := by
  obtain ⟨wz, wt, fz, ft, hM, hV⟩ := h
  exact ⟨wz, wt, fz, ft, hM.keep hF hd, hV⟩
/-- what a State holds, but for its views and queues -/
def SS (X : Hp) (B st g ml ws va qa oe dc : Nat) (v q : Int → Nat) (r : Int → Int) : Prop := ∃ (fv fq : Int → Option Nat) (fo fd : Int → Int),
  X st = some (B, ob 2 [vi (r 2), vi (r 3), vi (r 4), .ref g, .ref ml, .ref ws, .ref va, .ref qa, .ref oe, .ref dc])
  ∧ GR X (B + 10) g r ∧ MR X (B + 20) ml r ∧ HR X (B + 30) ws r ∧ X va = some (B + 40, ra 4 2 fv) ∧ X qa = some (B + 50, ra 3 2 fq) ∧ X oe = some (B + 60, ia 0 6 fo) ∧ X dc = some (B + 61, ia 0 60 fd)
  ∧ (∀ w, 0 ≤ w → w ≤ 1 → fv w = some (v w) ∧ fq w = some (q w)) ∧ (∀ j, 0 ≤ j → j < 6 → fo j = r (11 + j)) ∧ DR r fd
def VV (X : Hp) (B : Nat) (v n : Int → Nat) (z r : Int → Int) : Prop := ∀ w, 0 ≤ w → w ≤ 1 → VR X (B + 100 + 10 * w.toNat) (v w) (n w) (z w) (fun x => r (6359 + 16000 * w + x))
def QQ (X : Hp) (B : Nat) (q m_ : Int → Nat) (fi r : Int → Int) : Prop := ∀ w, 0 ≤ w → w ≤ 1 → QR X (B + 200 + 10 * w.toNat) (q w) (m_ w) (fi w) (r (357 + w)) (fun i => r (38359 + 8192 * w + i))
theorem SS.keep {X X1 : Hp} {B st g ml ws va qa oe dc : Nat} {v q : Int → Nat} {r : Int → Int} (h : SS X B st g ml ws va qa oe dc v q r) {lo hi : Nat} (hF : FB lo hi X X1) (hd : B + 100 ≤ lo ∨ hi ≤ B) : SS X1 B st g ml ws va qa oe dc v q r := by
  obtain ⟨fv, fq, fo, fd, h1, h2, h3, h4, h5, h6, h7, h8, h9⟩ := h
  exact ⟨fv, fq, fo, fd, hF _ _ _ h1 (by omega), h2.keep hF (by omega), h3.keep hF (by omega), h4.keep hF (by omega), hF _ _ _ h5 (by omega), hF _ _ _ h6 (by omega), hF _ _ _ h7 (by omega), hF _ _ _ h8 (by omega), h9⟩
theorem VV.keep {X X1 : Hp} {B : Nat} {v n : Int → Nat} {z r : Int → Int} (h : VV X B v n z r) {lo hi : Nat} (hF : FB lo hi X X1) (hd : B + 120 ≤ lo ∨ hi ≤ B + 100) : VV X1 B v n z r := fun w w1 w2 => (h w w1 w2).keep hF (by omega)
theorem QQ.keep {X X1 : Hp} {B : Nat} {q m_ : Int → Nat} {fi r : Int → Int} (h : QQ X B q m_ fi r) {lo hi : Nat} (hF : FB lo hi X X1) (hd : B + 220 ≤ lo ∨ hi ≤ B + 200) : QQ X1 B q m_ fi r := fun w w1 w2 => (h w w1 w2).keep hF (by omega)
def fN (f : Int → Nat) (i : Int) (v : Nat) : Int → Nat := fun j => if j = i then v else f j
theorem fN_s {f : Int → Nat} {i : Int} {v : Nat} : fN f i v i = v := by simp [fN]
theorem fN_n {f : Int → Nat} {i j : Int} {v : Nat} (h : j ≠ i) : fN f i v j = f j := by simp [fN, h]
theorem VV.set {X X1 : Hp} {B : Nat} {v n : Int → Nat} {z r r' f : Int → Int} (h : VV X B v n z r) {w : Int} (hw : 0 ≤ w ∧ w ≤ 1) {n' : Nat} {z' : Int} (h1 : VR X1 (B + 100 + 10 * w.toNat) (v w) n' z' f) (hF : FB (B + 100 + 10 * w.toNat) (B + 100 + 10 * w.toNat + 10) X X1) (e1 : ∀ x, 0 ≤ x → x < 16000 → r' (6359 + 16000 * w + x) = f x) (e2 : ∀ x, 0 ≤ x → x < 16000 → r' (6359 + 16000 * (1 - w) + x) = r (6359 + 16000 * (1 - w) + x)) : VV X1 B v (fN n w n') (fu z w z') r' := fun u u1 u2 => by
  by_cases e : u = w
  · subst e; rw [fN_s, fu_s]; exact h1.cong e1
  · obtain rfl : u = 1 - w := by omega
    rw [fN_n e, fu_n e]
    exact ((h (1 - w) u1 u2).keep hF (by omega)).cong e2
theorem QQ.set {X X1 : Hp} {B : Nat} {q m_ : Int → Nat} {fi r r' f : Int → Int} (h : QQ X B q m_ fi r) {w : Int} (hw : 0 ≤ w ∧ w ≤ 1) {m' : Nat} {fi' z' : Int} (h1 : QR X1 (B + 200 + 10 * w.toNat) (q w) m' fi' z' f) (hF : FB (B + 200 + 10 * w.toNat) (B + 200 + 10 * w.toNat + 10) X X1) (e0 : r' (357 + w) = z') (e1 : ∀ x, 0 ≤ x → x < z' → r' (38359 + 8192 * w + x) = f x) (e2 : r' (357 + (1 - w)) = r (357 + (1 - w))) (e3 : ∀ x, 0 ≤ x → x < r (357 + (1 - w)) → r' (38359 + 8192 * (1 - w) + x) = r (38359 + 8192 * (1 - w) + x)) : QQ X1 B q (fN m_ w m') (fu fi w fi') r' := fun u u1 u2 => by
  by_cases e : u = w
  · subst e; rw [fN_s, fu_s, e0]; exact h1.cong e1
  · obtain rfl : u = 1 - w := by omega
    rw [fN_n e, fu_n e, e2]
    exact ((h (1 - w) u1 u2).keep hF (by omega)).cong e3
def kpo (n m_ : Int → Nat) : Nat := n 0 + n 1 + m_ 0 + m_ 1
def ST (X : Hp) (B st kap : Nat) (r : Int → Int) : Prop := ∃ (g ml ws va qa oe dc : Nat) (v q n m_ : Int → Nat) (z fi : Int → Int), SS X B st g ml ws va qa oe dc v q r ∧ VV X B v n z r ∧ QQ X B q m_ fi r ∧ kap = kpo n m_

