/-- rows that agree where K says -/
def AK (K : Int → Prop) (f g : Int → Int) : Prop := ∀ i, K i → f i = g i
def KK (K : Int → Prop) : Prop := ∀ i, (47 ≤ i ∧ i < 359) ∨ 6359 ≤ i → K i
theorem AK.st {K : Int → Prop} {f g : Int → Int} (h : AK K f g) {a a' x x' : Int} (e1 : a = a') (e2 : x = x') : AK K (fu f a x) (fu g a' x') := fun i hi => by
  subst e1; subst e2
  unfold fu
  split
  · rfl
  · exact h i hi
theorem AK.put {K : Int → Prop} {f g : Int → Int} (hK : KK K) (h : AK K f g) {w e t : Int} (hw : 0 ≤ w ∧ w ≤ 1) (he : 0 ≤ e ∧ e < 10) : AK K (m_put f w e t) (m_put g w e t) := by
  have h1 := h.st (a := 67 + 12 * (10 * w + e) + f (47 + (10 * w + e))) (a' := 67 + 12 * (10 * w + e) + g (47 + (10 * w + e))) (x := t) (by rw [h _ (hK _ (by omega))]) rfl
  exact h1.st rfl (by rw [h1 _ (hK _ (by omega))])
theorem AK.upd {K : Int → Prop} {f g : Int → Int} (hK : KK K) (h : AK K f g) {w p t c : Int} (hw : 0 ≤ w ∧ w ≤ 1) (hp : 0 ≤ p) (ht : 0 ≤ t) : AK K (m_upd f w p t c) (m_upd g w p t c) := by
  have h1 : AK K (fu f (6359 + 1000 * (16 * w + p) + t) (f (6359 + 1000 * (16 * w + p) + t) + c)) (fu g (6359 + 1000 * (16 * w + p) + t) (g (6359 + 1000 * (16 * w + p) + t) + c)) := h.st rfl (by rw [h _ (hK _ (by omega))])
  have e1 := h1 (357 + (1 - w)) (hK _ (by omega))
  have h2 := h1.st (a := 38359 + 8192 * (1 - w) + (fu f (6359 + 1000 * (16 * w + p) + t) (f (6359 + 1000 * (16 * w + p) + t) + c)) (357 + (1 - w))) (a' := 38359 + 8192 * (1 - w) + (fu g (6359 + 1000 * (16 * w + p) + t) (g (6359 + 1000 * (16 * w + p) + t) + c)) (357 + (1 - w))) (x := 2 * (1000 * p + t) + (if 0 < c then 1 else 0)) (by rw [e1]) rfl
  have e2 := h2 (357 + (1 - w)) (hK _ (by omega))
  have h3 := h2.st (a := 357 + (1 - w)) rfl (congrArg (fun z => z + 1) e2)
  exact h3.st rfl rfl
theorem AK.pa {K : Int → Prop} {f g : Int → Int} (hK : KK K) (h : AK K f g) {w o tg t : Int} (hw : 0 ≤ w ∧ w ≤ 1) (htg : 0 ≤ tg ∧ tg ≤ 1) (ht : 0 ≤ t) : ∀ n : Nat, n ≤ 10 → AK K (m_pa w o tg t n f) (m_pa w o tg t n g)
  | 0, _ => h
  | n + 1, hn => by
    have ih := AK.pa hK h (o := o) hw htg ht n (by omega)
    simp only [m_pa]
    split
    · exact AK.upd hK (AK.put hK ih htg (by omega)) hw (by omega) ht
    · exact ih
theorem AK.tk {K : Int → Prop} {f g : Int → Int} (hK : KK K) (h : AK K f g) {l : Int} (hl : 0 ≤ l ∧ l < 20) (hz : f (47 + l) ≤ 12) : AK K (m_take f l) (m_take g l) := by
  have e := h (47 + l) (hK _ (by omega))
  have h1 := h.st (a := 47 + l) (a' := 47 + l) (x := f (47 + l) - 1) (x' := g (47 + l) - 1) rfl (by rw [e])
  intro i hi
  unfold m_take m_tk
  rw [← e] at h1 ⊢
  by_cases q : 67 + 12 * l ≤ i ∧ i < 67 + 12 * l + (f (47 + l) - 1)
  · rw [if_pos q, if_pos q]; exact h1 _ (hK _ (by omega))
  · rw [if_neg q, if_neg q]; exact h1 _ hi
theorem p2_pos : ∀ n : Nat, (1 : Int) ≤ 2 ^ n
  | 0 => by decide
  | n + 1 => by
    have h := p2_pos n
    rw [Int.pow_succ]
    omega
theorem p2_le (a : Nat) : ∀ k : Nat, (2 : Int) ^ a ≤ 2 ^ (a + k)
  | 0 => Int.le_refl _
  | k + 1 => by
    have h1 := p2_le a k
    have h2 := p2_pos (a + k)
    rw [← Nat.add_assoc, Int.pow_succ]
    omega
theorem pw_mono {a b : Int} (h : a ≤ b) : pw a ≤ pw b := by
  unfold pw
  have q := p2_le a.toNat (b.toNat - a.toNat)
  rw [show a.toNat + (b.toNat - a.toNat) = b.toNat by omega] at q
  exact q
theorem hb_lt {o E x : Int} (h : 0 ≤ o ∧ o ≤ pw E - 1) (hE : 0 ≤ E ∧ E ≤ 10) (hx : 0 ≤ x) (hb_ : hb o x) : x < E := by
  refine Classical.byContradiction fun q => ?_
  have e1 : pw E ≤ pw x := pw_mono (by omega)
  unfold hb at hb_
  rw [Int.ediv_eq_zero_of_lt h.1 (by omega)] at hb_
  omega
theorem pw_top {E : Int} (hE : 0 ≤ E ∧ E ≤ 10) : pw E ≤ 1024 := by
  have e1 : pw E ≤ pw 10 := pw_mono (by omega)
  have e2 : pw 10 = 1024 := by decide
  omega
theorem SS.wish {X X1 : Hp} {B st g ml ws va qa oe dc : Nat} {v q : Int → Nat} {r r' : Int → Int} (hG : GI r) (h : SS X B st g ml ws va qa oe dc v q r) (hw : HR X1 (B + 30) ws r') (hF : FB (B + 30) (B + 40) X X1) (e : ∀ i, 0 ≤ i → i < 307 ∨ 357 ≤ i → r' i = r i) : SS X1 B st g ml ws va qa oe dc v q r' := by
  obtain ⟨fv, fq, fo, fd, h1, ⟨d, s, e_, k, nc, ec, gd, gs, ge, gk, hg, hge⟩, h3, h4, h5, h6, h7, h8, h9, h10, h11⟩ := h
  refine ⟨fv, fq, fo, fd, ?_, ⟨d, s, e_, k, nc, ec, gd, gs, ge, gk, hg.keep hF (by omega), hge.row hG (fun i i1 i2 => e i i1 (by omega))⟩, (h3.keep hF (by omega)).row (fun i i1 i2 => e i (by omega) (by omega)), hw, hF _ _ _ h5 (by omega), hF _ _ _ h6 (by omega), hF _ _ _ h7 (by omega), hF _ _ _ h8 (by omega), h9, ?_, h11.row (fun i i1 i2 => e i (by omega) (by omega))⟩
  · rw [e 2 (by omega) (by omega), e 3 (by omega) (by omega), e 4 (by omega) (by omega)]; exact hF _ _ _ h1 (by omega)
  · intro j j1 j2; rw [e (11 + j) (by omega) (by omega)]; exact h10 j j1 j2
/-- the row of a new request -/
def m_rq1 (r : Int → Int) (w nd t : Int) : Int → Int := fu (m_rq r w nd t) (307 + w) (m_rq r w nd t (307 + w) + 1)
theorem rq_o {r : Int → Int} {w nd t i : Int} (hw : 0 ≤ w ∧ w ≤ 1) (hz : 0 ≤ r (307 + w) ∧ r (307 + w) < 12) (hi : i < 307 ∨ 357 ≤ i) : m_rq1 r w nd t i = r i := by
  unfold m_rq1 m_rq
  rw [fu_n (by omega), fu_n (by omega), fu_n (by omega)]
theorem rq_z {r : Int → Int} {w nd t u : Int} (hw : 0 ≤ w ∧ w ≤ 1) (hz : 0 ≤ r (307 + w) ∧ r (307 + w) < 12) (hu : 0 ≤ u ∧ u ≤ 1) : m_rq1 r w nd t (307 + u) = if u = w then r (307 + w) + 1 else r (307 + u) := by
  unfold m_rq1
  have e : ∀ j, 0 ≤ j → j ≤ 1 → m_rq r w nd t (307 + j) = r (307 + j) := fun j _ _ => by unfold m_rq; rw [fu_n (by omega), fu_n (by omega)]
  by_cases q : u = w
  · rw [if_pos q, q, fu_s, e w hw.1 hw.2]
  · rw [if_neg q, fu_n (by omega), e u hu.1 hu.2]
theorem rq_c {r : Int → Int} {w nd t j : Int} (hw : 0 ≤ w ∧ w ≤ 1) (hz : 0 ≤ r (307 + w) ∧ r (307 + w) < 12) (hj : 0 ≤ j ∧ j < 24) : m_rq1 r w nd t (309 + j) = (if j = 12 * w + r (307 + w) then nd else r (309 + j)) ∧ m_rq1 r w nd t (333 + j) = (if j = 12 * w + r (307 + w) then t else r (333 + j)) := by
  unfold m_rq1 m_rq
  by_cases q : j = 12 * w + r (307 + w)
  · rw [if_pos q, if_pos q]
    refine ⟨?_, ?_⟩
    · rw [fu_n (by omega), fu_n (by omega), q, fu_s]
    · rw [fu_n (by omega), q, fu_s]
  · rw [if_neg q, if_neg q]
    refine ⟨?_, ?_⟩
    · rw [fu_n (by omega), fu_n (by omega), fu_n (by omega)]
    · rw [fu_n (by omega), fu_n (by omega), fu_n (by omega)]
theorem HS.ask {r ut : Int → Int} {w nd t u : Int} (hA : AS r) (h : HS r ut u) (hw : 0 ≤ w ∧ w ≤ 1) (hu : 0 ≤ u ∧ u ≤ 1) (hz : 0 ≤ r (307 + w) ∧ r (307 + w) < 12) : HS (m_rq1 r w nd t) (fu ut (12 * w + r (307 + w)) (1000 * nd + t)) u := by
  have a1 := hA u hu.1 (by omega)
  have row : ∀ j, 0 ≤ j → j < r (307 + u) → ∀ x, (if fu ut (12 * w + r (307 + w)) (1000 * nd + t) (12 * u + j) = x then (1 : Int) else 0) = (if ut (12 * u + j) = x then 1 else 0) ∧ (if 1000 * m_rq1 r w nd t (309 + (12 * u + j)) + m_rq1 r w nd t (333 + (12 * u + j)) = x then (1 : Int) else 0) = (if 1000 * r (309 + (12 * u + j)) + r (333 + (12 * u + j)) = x then 1 else 0) := fun j j1 j2 x => by
    have ne : ¬ 12 * u + j = 12 * w + r (307 + w) := by
      rcases (show u = w ∨ ¬ u = w by omega) with q | q
      · rw [q] at j2 ⊢; omega
      · omega
    obtain ⟨c1, c2⟩ := rq_c (nd := nd) (t := t) hw hz (j := 12 * u + j) (by omega)
    rw [c1, c2, if_neg ne, if_neg ne, fu_n ne]
    exact ⟨rfl, rfl⟩
  intro x
  rw [rq_z hw hz hu]
  by_cases q : u = w
  · subst q
    rw [if_pos rfl, show (r (307 + u) + 1).toNat = (r (307 + u)).toNat + 1 by omega]
    have ek : (((r (307 + u)).toNat : Nat) : Int) = r (307 + u) := by omega
    have hx := h x
    have e1 := cf_ext (f := fun i => if fu ut (12 * u + r (307 + u)) (1000 * nd + t) (12 * u + i) = x then (1 : Int) else 0) (g := fun i => if ut (12 * u + i) = x then (1 : Int) else 0) (r (307 + u)).toNat (fun j j1 j2 => (row j j1 (by omega) x).1)
    have e2 := cf_ext (f := fun i => if 1000 * m_rq1 r u nd t (309 + (12 * u + i)) + m_rq1 r u nd t (333 + (12 * u + i)) = x then (1 : Int) else 0) (g := fun i => if 1000 * r (309 + (12 * u + i)) + r (333 + (12 * u + i)) = x then (1 : Int) else 0) (r (307 + u)).toNat (fun j j1 j2 => (row j j1 (by omega) x).2)
    obtain ⟨c1, c2⟩ := rq_c (nd := nd) (t := t) hw hz (j := 12 * u + r (307 + u)) (by omega)
    show cf (fun i => if fu ut (12 * u + r (307 + u)) (1000 * nd + t) (12 * u + i) = x then (1 : Int) else 0) (r (307 + u)).toNat + (if fu ut (12 * u + r (307 + u)) (1000 * nd + t) (12 * u + (((r (307 + u)).toNat : Nat) : Int)) = x then (1 : Int) else 0) = cf (fun i => if 1000 * m_rq1 r u nd t (309 + (12 * u + i)) + m_rq1 r u nd t (333 + (12 * u + i)) = x then (1 : Int) else 0) (r (307 + u)).toNat + (if 1000 * m_rq1 r u nd t (309 + (12 * u + (((r (307 + u)).toNat : Nat) : Int))) + m_rq1 r u nd t (333 + (12 * u + (((r (307 + u)).toNat : Nat) : Int))) = x then (1 : Int) else 0)
    rw [e1, e2, hx, ek, fu_s, c1, c2, if_pos rfl, if_pos rfl]
  · rw [if_neg q]
    have e1 := cf_ext (f := fun i => if fu ut (12 * w + r (307 + w)) (1000 * nd + t) (12 * u + i) = x then (1 : Int) else 0) (g := fun i => if ut (12 * u + i) = x then (1 : Int) else 0) (r (307 + u)).toNat (fun j j1 j2 => (row j j1 (by omega) x).1)
    have e2 := cf_ext (f := fun i => if 1000 * m_rq1 r w nd t (309 + (12 * u + i)) + m_rq1 r w nd t (333 + (12 * u + i)) = x then (1 : Int) else 0) (g := fun i => if 1000 * r (309 + (12 * u + i)) + r (333 + (12 * u + i)) = x then (1 : Int) else 0) (r (307 + u)).toNat (fun j j1 j2 => (row j j1 (by omega) x).2)
    rw [e1, e2]; exact h x
theorem AK.rq {K : Int → Prop} {f g : Int → Int} (hK : KK K) (h : AK K f g) {w nd t : Int} (hw : 0 ≤ w ∧ w ≤ 1) : AK K (m_rq1 f w nd t) (m_rq1 g w nd t) := by
  have e := h (307 + w) (hK _ (by omega))
  have h1 := h.st (a := 309 + (12 * w + f (307 + w))) (a' := 309 + (12 * w + g (307 + w))) (x := nd) (by rw [e]) rfl
  have h2 := h1.st (a := 333 + (12 * w + f (307 + w))) (a' := 333 + (12 * w + g (307 + w))) (x := t) (by rw [e]) rfl
  exact h2.st (a := 307 + w) rfl (by show (fu (fu f _ nd) _ t) (307 + w) + 1 = (fu (fu g _ nd) _ t) (307 + w) + 1; rw [h2 _ (hK _ (by omega))])

