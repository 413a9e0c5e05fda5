theorem GE.row {r r' : Int → Int} {nc ec : Int} {fd fs fe fk : Int → Int} (hG : GI r) (h : GE r nc ec fd fs fe fk) (e : ∀ i, 0 ≤ i → i < 47 → r' i = r i) : GE r' nc ec fd fs fe fk := by
  obtain ⟨⟨g1, g1'⟩, g2, g3⟩ := h
  have b1 := hG.2.1
  refine ⟨?_, ?_, ?_⟩
  · rw [e 0 (by omega) (by omega), e 1 (by omega) (by omega)]; exact ⟨g1, g1'⟩
  · intro j j1 j2; rw [e (5 + j) (by omega) (by omega)]; exact g2 j j1 j2
  · intro j j1 j2
    rw [e 1 (by omega) (by omega)] at j2
    have g := hG.ed j j1 (by omega)
    have ek : m_kind r' j = m_kind r j := by
      unfold m_kind
      rw [e (37 + j) (by omega) (by omega), e (27 + j) (by omega) (by omega), e (17 + j) (by omega) (by omega), e (5 + r (27 + j)) (by omega) (by omega), e (5 + r (17 + j)) (by omega) (by omega)]
    rw [e (17 + j) (by omega) (by omega), e (27 + j) (by omega) (by omega), ek]
    exact g3 j j1 j2
theorem HR.row {X : Hp} {b ws : Nat} {r r' : Int → Int} (hA : AS r) (h : HR X b ws r) (e : ∀ i, 307 ≤ i → i < 357 → r' i = r i) : HR X b ws r' := by
  obtain ⟨wz, wt, wf, wg, hw, w1⟩ := h
  refine ⟨wz, wt, wf, wg, hw, ?_⟩
  intro w w2 w3
  obtain ⟨w4, w5⟩ := w1 w w2 w3
  have a1 := hA w w2 (by omega)
  refine ⟨by rw [e (307 + w) (by omega) (by omega)]; exact w4, fun x => ?_⟩
  rw [e (307 + w) (by omega) (by omega), w5 x]
  apply cf_ext
  intro i i1 i2
  show (if 1000 * r (309 + (12 * w + i)) + r (333 + (12 * w + i)) = x then (1 : Int) else 0) = (if 1000 * r' (309 + (12 * w + i)) + r' (333 + (12 * w + i)) = x then (1 : Int) else 0)
  rw [e (309 + (12 * w + i)) (by omega) (by omega), e (333 + (12 * w + i)) (by omega) (by omega)]
theorem DR.row {r r' fd : Int → Int} (h : DR r fd) (e : ∀ i, 359 ≤ i → i < 6359 → r' i = r i) : DR r' fd := by
  intro nd ep a1 a2 a3 a4
  rcases h nd ep a1 a2 a3 a4 with ⟨l1, l2⟩ | ⟨l1, l2, l3⟩
  · refine Or.inl ⟨l1, fun c c1 c2 => ?_⟩
    rw [e _ (by omega) (by omega)]; exact l2 c c1 c2
  · refine Or.inr ⟨l1, ?_, fun c c1 c2 c3 => ?_⟩
    · rw [e _ (by omega) (by omega)]; exact l2
    · rw [e _ (by omega) (by omega)] at c3; exact l3 c c1 c2 c3
theorem SS.mail {X X1 : Hp} {B st g ml ws va qa oe dc : Nat} {v q : Int → Nat} {r r' : Int → Int} (hG : GI r) (hA : AS r) (h : SS X B st g ml ws va qa oe dc v q r) (hm : MR X1 (B + 20) ml r') (hF : FB (B + 20) (B + 30) X X1) (e : ∀ i, 0 ≤ i → i < 47 ∨ 307 ≤ i → r' i = r i) : SS X1 B st g ml ws va qa oe dc v q r' := by
  obtain ⟨fv, fq, fo, fd, h1, ⟨d, s, e_, k, nc, ec, gd, gs, ge, gk, hg, hge⟩, h3, h4, h5, h6, h7, h8, h9, h10, h11⟩ := h
  refine ⟨fv, fq, fo, fd, ?_, ⟨d, s, e_, k, nc, ec, gd, gs, ge, gk, hg.keep hF (by omega), hge.row hG (fun i i1 i2 => e i i1 (by omega))⟩, hm, (h4.keep hF (by omega)).row hA (fun i i1 i2 => e i (by omega) (by omega)), hF _ _ _ h5 (by omega), hF _ _ _ h6 (by omega), hF _ _ _ h7 (by omega), hF _ _ _ h8 (by omega), h9, ?_, h11.row (fun i i1 i2 => e i (by omega) (by omega))⟩
  · rw [e 2 (by omega) (by omega), e 3 (by omega) (by omega), e 4 (by omega) (by omega)]; exact hF _ _ _ h1 (by omega)
  · intro j j1 j2; rw [e (11 + j) (by omega) (by omega)]; exact h10 j j1 j2

