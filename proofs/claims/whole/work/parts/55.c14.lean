theorem cf_ext {f g : Int → Int} : ∀ n : Nat, (∀ j : Int, 0 ≤ j → j < n → f j = g j) → cf f n = cf g n
  | 0, _ => rfl
  | n + 1, h => by
    have h1 := cf_ext n (fun j a b => h j a (by omega))
    have h2 := h n (by omega) (by omega)
    show cf f n + f n = cf g n + g n
    rw [h1, h2]
theorem vc_top {X : Hp} {b v n : Nat} {sz x : Int} {f : Int → Int} (h : VR X b v n sz f) : vc n sz f x ≤ 32002 := by
  obtain ⟨s, c, k, fs, fv, fk, hM, hV, h1, h2⟩ := h
  have := hV.top
  unfold vc
  split
  · exact mr_top h2 (by omega)
  · exact h2
theorem qn_top {X : Hp} {b q n : Nat} {fi sz : Int} {g : Int → Int} (h : QR X b q n fi sz g) (hs : sz < 6144) : qn n fi sz ≤ 16384 := by
  obtain ⟨u, fq, hM, h1, h2, hQ⟩ := h
  have r1 := hQ.rg
  unfold qn
  split
  · split
    · exact (hQ.two (by omega)).rg.2
    · omega
  · omega
theorem VR.room {X : Hp} {b v n : Nat} {sz : Int} {f : Int → Int} (h : VR X b v n sz f) : n ≤ 32002 := by
  obtain ⟨s, c, k, fs, fv, fk, hM, hV, h1, h2⟩ := h
  exact h2
theorem QR.room {X : Hp} {b q n : Nat} {fi sz : Int} {g : Int → Int} (h : QR X b q n fi sz g) : n ≤ 16384 := by
  obtain ⟨u, fq, hM, h1, h2, hQ⟩ := h
  exact hQ.rg.2
/-- rows that agree but for views and queues -/
def RQ (r r' : Int → Int) : Prop := ∀ i, 0 ≤ i → i < 357 ∨ (358 < i ∧ i < 6359) → r' i = r i
theorem m_kind_row {r r' : Int → Int} (hG : GI r) (h : RQ r r') {j : Int} (h1 : 0 ≤ j) (h2 : j < 10) : m_kind r' j = m_kind r j := by
  have g := hG.ed j h1 h2
  unfold m_kind
  rw [h (37 + j) (by omega) (by omega), h (27 + j) (by omega) (by omega), h (17 + j) (by omega) (by omega), h (5 + r (27 + j)) (by omega) (by omega), h (5 + r (17 + j)) (by omega) (by omega)]
theorem SS.row {X : Hp} {B st g ml ws va qa oe dc : Nat} {v q : Int → Nat} {r r' : Int → Int} (hG : GI r) (hA : AS r) (h : SS X B st g ml ws va qa oe dc v q r) (e : RQ r r') : SS X B st g ml ws va qa oe dc v q r' := by
  obtain ⟨fv, fq, fo, fd, h1, ⟨d, s, e_, k, nc, ec, gd, gs, ge, gk, hg, ⟨g1, g1'⟩, g2, g3⟩, ⟨mz, mt, fz, ft, hm, m1, m2⟩, ⟨wz, wt, wf, wg, hw, w1⟩, h5, h6, h7, h8, h9, h10, h11⟩ := h
  have b1 := hG.2.1
  refine ⟨fv, fq, fo, fd, ?_, ⟨d, s, e_, k, nc, ec, gd, gs, ge, gk, hg, ?_, ?_, ?_⟩, ⟨mz, mt, fz, ft, hm, ?_, ?_⟩, ⟨wz, wt, wf, wg, hw, ?_⟩, h5, h6, h7, h8, h9, ?_, ?_⟩
  · rw [e 2 (by omega) (by omega), e 3 (by omega) (by omega), e 4 (by omega) (by omega)]; exact h1
  · rw [e 0 (by omega) (by omega), e 1 (by omega) (by omega)]; exact ⟨g1, g1'⟩
  · intro j j1 j2; rw [e (5 + j) (by omega) (by omega)]; exact g2 j j1 j2
  · intro j j1 j2
    rw [e 1 (by omega) (by omega)] at j2
    rw [e (17 + j) (by omega) (by omega), e (27 + j) (by omega) (by omega), m_kind_row hG e j1 (by omega)]
    exact g3 j j1 j2
  · intro j j1 j2; rw [e (47 + j) (by omega) (by omega)]; exact m1 j j1 j2
  · intro j j1 j2; rw [e (67 + j) (by omega) (by omega)]; exact m2 j j1 j2
  · intro w w2 w3
    obtain ⟨w4, w5⟩ := w1 w w2 w3
    have a1 := hA w w2 (by omega)
    refine ⟨by rw [e (307 + w) (by omega) (by omega)]; exact w4, fun x => ?_⟩
    rw [e (307 + w) (by omega) (by omega), w5 x]
    apply cf_ext
    intro i i1 i2
    show (if 1000 * r (309 + (12 * w + i)) + r (333 + (12 * w + i)) = x then (1 : Int) else 0) = (if 1000 * r' (309 + (12 * w + i)) + r' (333 + (12 * w + i)) = x then (1 : Int) else 0)
    rw [e (309 + (12 * w + i)) (by omega) (by omega), e (333 + (12 * w + i)) (by omega) (by omega)]
  · intro j j1 j2; rw [e (11 + j) (by omega) (by omega)]; exact h10 j j1 j2
  · intro nd ep a1 a2 a3 a4
    rcases h11 nd ep a1 a2 a3 a4 with ⟨l1, l2⟩ | ⟨l1, l2, l3⟩
    · refine Or.inl ⟨l1, fun c c1 c2 => ?_⟩
      rw [e _ (by omega) (by omega)]; exact l2 c c1 c2
    · refine Or.inr ⟨l1, ?_, fun c c1 c2 c3 => ?_⟩
      · rw [e _ (by omega) (by omega)]; exact l2
      · rw [e _ (by omega) (by omega)] at c3; exact l3 c c1 c2 c3

