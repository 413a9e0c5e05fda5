/-! what every reachable row keeps -/
def VN (r : Int → Int) (N : Int) : Prop := (0 ≤ r 3 ∧ r 3 ≤ N) ∧ 0 ≤ r 4 ∧ r 4 ≤ N
def TLe (r : Int → Int) : Prop := ∀ e, r 1 ≤ e → e < 10 → r (17 + e) = 0 ∧ r (27 + e) = 0 ∧ r (37 + e) = 0
def TLm (r : Int → Int) : Prop := ∀ w e, 0 ≤ w → w ≤ 1 → r 1 ≤ e → e < 10 → r (47 + (10 * w + e)) = 0
def VDq (r : Int → Int) : Prop := ∀ w i, 0 ≤ w → w ≤ 1 → 0 ≤ i → i < r (357 + w) → VS r (r (38359 + 8192 * w + i) / 2)
def INp (r : Int → Int) : Prop := ∀ n, 0 ≤ n → n < r 0 → 0 ≤ r (11 + n) → r (5 + n) = 0
def GG (r : Int → Int) : Prop := GV r ∧ NCy r ∧ TLe r
def LO (r : Int → Int) (N : Int) : Prop := EO r ∧ VN r N ∧ (r 2 = 0 ∨ r 2 = 1) ∧ INp r
def ML (r : Int → Int) : Prop := RM2 r ∧ MTM r ∧ TLm r ∧ VDm r
def WS (r : Int → Int) : Prop := AS r ∧ AT r ∧ AP_ r
def VQ (r : Int → Int) (N : Int) : Prop := RI r N ∧ QI r ∧ VDv r ∧ VDq r
def RWI (r : Int → Int) (N : Int) : Prop := GG r ∧ LO r N ∧ ML r ∧ WS r ∧ VQ r N ∧ CAN r
theorem SG.vs {r r' : Int → Int} (h : SG r r') (hG : GI r) {x : Int} (hv : VS r x) : VS r' x := by
  have b0 := hG.1
  have b1 := hG.2.1
  obtain ⟨h1, h2⟩ := hv
  have p16 := m_place_rg hG h1
  have e0 := h 0 (by omega) (by omega) (by omega) (by omega)
  have e1 := h 1 (by omega) (by omega) (by omega) (by omega)
  have ed : m_depth r' (x / 1000) = m_depth r (x / 1000) := by
    unfold m_depth
    by_cases q : x / 1000 < 6
    · rw [if_pos q, if_pos q]; exact h _ (by omega) (by omega) (by omega) (by omega)
    · have g := hG.ed (x / 1000 - 6) (by omega) (by omega)
      have e2 : r (17 + (x / 1000 - 6)) = r (17 + x / 1000 - 6) := by congr 1; omega
      rw [if_neg q, if_neg q, h (17 + x / 1000 - 6) (by omega) (by omega) (by omega) (by omega)]
      exact h _ (by omega) (by omega) (by omega) (by omega)
  refine ⟨?_, ?_⟩
  · unfold m_place at h1 ⊢
    rw [e0, e1]; exact h1
  · unfold m_time at h2 ⊢
    rw [ed]; exact h2
theorem GG.row {r r' : Int → Int} (h : GG r) (e : SG r r') : GG r' := by
  obtain ⟨⟨hG, g2, g3⟩, hN, hT⟩ := h
  have b0 := hG.1
  have b1 := hG.2.1
  have e0 := e 0 (by omega) (by omega) (by omega) (by omega)
  have e1 := e 1 (by omega) (by omega) (by omega) (by omega)
  have e5 : ∀ j, 0 ≤ j → j < 6 → r' (5 + j) = r (5 + j) := fun j _ _ => e _ (by omega) (by omega) (by omega) (by omega)
  have ee : ∀ j, 0 ≤ j → j < 30 → r' (17 + j) = r (17 + j) := fun j _ _ => e _ (by omega) (by omega) (by omega) (by omega)
  have e27 : ∀ j, 0 ≤ j → j < 10 → r' (27 + j) = r (27 + j) := fun j _ _ => e _ (by omega) (by omega) (by omega) (by omega)
  have e37 : ∀ j, 0 ≤ j → j < 10 → r' (37 + j) = r (37 + j) := fun j _ _ => e _ (by omega) (by omega) (by omega) (by omega)
  refine ⟨⟨e.gi hG, fun j j1 j2 => ?_, fun j j1 j2 => ?_⟩, fun n n1 n2 c => ?_, fun j j1 j2 => ?_⟩
  · rw [e1] at j2
    have g := hG.ed j j1 (by omega)
    have q := g2 j j1 j2
    rw [ee j j1 (by omega), e27 j j1 (by omega), e37 j j1 (by omega), e0, e5 _ g.2.1.1 g.2.1.2, e5 _ g.1.1 g.1.2]
    exact q
  · rw [e0] at j1; rw [e5 j (by omega) j2]; exact g3 j j1 j2
  · rw [e0] at n2
    refine hN n n1 n2 ?_
    unfold CPr at c ⊢
    rw [e1] at c
    refine CP_cong (fun k k1 k2 => ?_) (e5 n n1 (by omega)).symm c
    have g := hG.ed k k1 (by omega)
    exact ⟨(ee k k1 (by omega)).symm, (e27 k k1 (by omega)).symm, (e.kind hG k1 (by omega)).symm, by show r (5 + r' (27 + k)) = r' (5 + r' (27 + k)); rw [e27 k k1 (by omega)]; exact (e5 _ g.2.1.1 g.2.1.2).symm⟩
  · rw [e1] at j1
    rw [ee j (by omega) (by omega), e27 j (by omega) (by omega), e37 j (by omega) (by omega)]
    exact hT j j1 j2
theorem RWI.gi {r : Int → Int} {N : Int} (h : RWI r N) : GI r := h.1.1.1
/-- views and queues change -/
theorem RWI.vq {r r' : Int → Int} {N M : Int} (h : RWI r N) (hM : N ≤ M) (e : ∀ i, 0 ≤ i → i < 357 → ¬ i = 2 → r' i = r i) (h2 : r' 2 = 0 ∨ r' 2 = 1) (hv : VQ r' M) (hC : CAN r') : RWI r' M := by
  have hG := h.gi
  have hsg : SG r r' := fun i i1 i2 i3 _ => e i i1 (by omega) (by omega)
  have b1 := hG.2.1
  obtain ⟨hg, ⟨l1, l2, l3, l4⟩, ⟨m1, m2, m3, m4⟩, ⟨w1, w2, w3⟩, -, -⟩ := h
  refine ⟨hg.row hsg, ⟨fun n a b => by rw [e _ (by omega) (by omega) (by omega)]; exact l1 n a b, ?_, h2, fun n a b c => ?_⟩, ⟨fun l a b => by rw [e _ (by omega) (by omega) (by omega)]; exact m1 l a b, fun i a b => by rw [e _ (by omega) (by omega) (by omega)]; exact m2 i a b, fun w k a b c d => ?_, fun w k i a b c d f g => ?_⟩, ⟨fun w a b => by rw [e _ (by omega) (by omega) (by omega)]; exact w1 w a b, fun x a b => by rw [e _ (by omega) (by omega) (by omega)]; exact w2 x a b, fun x a b => by rw [e _ (by omega) (by omega) (by omega)]; exact w3 x a b⟩, hv, hC⟩
  · unfold VN at l2 ⊢
    rw [e 3 (by omega) (by omega) (by omega), e 4 (by omega) (by omega) (by omega)]; omega
  · rw [e 0 (by omega) (by omega) (by omega)] at b
    have b0 := hG.1
    rw [e _ (by omega) (by omega) (by omega)] at c ⊢
    exact l4 n a b c
  · rw [e 1 (by omega) (by omega) (by omega)] at c
    rw [e _ (by omega) (by omega) (by omega)]; exact m3 w k a b c d
  · rw [e 1 (by omega) (by omega) (by omega)] at d
    rw [e _ (by omega) (by omega) (by omega)] at g
    have z := m1 (10 * w + k) (by omega) (by omega)
    rw [e _ (by omega) (by omega) (by omega)]
    exact hsg.vs hG (m4 w k i a b c d f g)
/-- the mail changes -/
theorem RWI.ml {r r' : Int → Int} {N : Int} (h : RWI r N) (e : ∀ i, 0 ≤ i → i < 47 ∨ 307 ≤ i → r' i = r i) (hm : ML r') (hC : CAN r') : RWI r' N := by
  have hG := h.gi
  have hsg : SG r r' := fun i i1 i2 i3 _ => e i i1 (by omega)
  obtain ⟨hg, ⟨l1, l2, l3, l4⟩, -, ⟨w1, w2, w3⟩, ⟨v1, v2, v3, v4⟩, -⟩ := h
  refine ⟨hg.row hsg, ⟨fun n a b => by rw [e _ (by omega) (by omega)]; exact l1 n a b, ?_, by rw [e 2 (by omega) (by omega)]; exact l3, fun n a b c => ?_⟩, hm, ⟨fun w a b => by rw [e _ (by omega) (by omega)]; exact w1 w a b, fun x a b => by rw [e _ (by omega) (by omega)]; exact w2 x a b, fun x a b => by rw [e _ (by omega) (by omega)]; exact w3 x a b⟩, ⟨v1.row (fun i _ _ => e i (by omega) (by omega)), fun i a b => by rw [e _ (by omega) (by omega)]; exact v2 i a b, fun w x a b c d f => ?_, fun w i a b c d => ?_⟩, hC⟩
  · unfold VN at l2 ⊢
    rw [e 3 (by omega) (by omega), e 4 (by omega) (by omega)]; exact l2
  · have b0 := hG.1
    rw [e 0 (by omega) (by omega)] at b
    rw [e _ (by omega) (by omega)] at c ⊢
    exact l4 n a b c
  · rw [e _ (by omega) (by omega)] at f
    exact hsg.vs hG (v3 w x a b c d f)
  · rw [e _ (by omega) (by omega)] at d
    rw [e _ (by omega) (by omega)]
    exact hsg.vs hG (v4 w i a b c d)
/-- the requests change -/
theorem RWI.ws {r r' : Int → Int} {N : Int} (h : RWI r N) (e : ∀ i, 0 ≤ i → i < 307 ∨ 357 ≤ i → r' i = r i) (hw : WS r') (hC : CAN r') : RWI r' N := by
  have hG := h.gi
  have hsg : SG r r' := fun i i1 i2 i3 _ => e i i1 (by omega)
  have b1 := hG.2.1
  obtain ⟨hg, ⟨l1, l2, l3, l4⟩, ⟨m1, m2, m3, m4⟩, -, ⟨v1, v2, v3, v4⟩, -⟩ := h
  refine ⟨hg.row hsg, ⟨fun n a b => by rw [e _ (by omega) (by omega)]; exact l1 n a b, ?_, by rw [e 2 (by omega) (by omega)]; exact l3, fun n a b c => ?_⟩, ⟨fun l a b => by rw [e _ (by omega) (by omega)]; exact m1 l a b, fun i a b => by rw [e _ (by omega) (by omega)]; exact m2 i a b, fun w k a b c d => ?_, fun w k i a b c d f g => ?_⟩, hw, ⟨v1.row (fun i _ _ => e i (by omega) (by omega)), fun i a b => by rw [e _ (by omega) (by omega)]; exact v2 i a b, fun w x a b c d f => ?_, fun w i a b c d => ?_⟩, hC⟩
  · unfold VN at l2 ⊢
    rw [e 3 (by omega) (by omega), e 4 (by omega) (by omega)]; exact l2
  · have b0 := hG.1
    rw [e 0 (by omega) (by omega)] at b
    rw [e _ (by omega) (by omega)] at c ⊢
    exact l4 n a b c
  · rw [e 1 (by omega) (by omega)] at c
    rw [e _ (by omega) (by omega)]; exact m3 w k a b c d
  · rw [e 1 (by omega) (by omega)] at d
    rw [e _ (by omega) (by omega)] at g
    have z := m1 (10 * w + k) (by omega) (by omega)
    rw [e _ (by omega) (by omega)]
    exact hsg.vs hG (m4 w k i a b c d f g)
  · rw [e _ (by omega) (by omega)] at f
    exact hsg.vs hG (v3 w x a b c d f)
  · rw [e _ (by omega) (by omega)] at d
    rw [e _ (by omega) (by omega)]
    exact hsg.vs hG (v4 w i a b c d)
/-- small numbers and done flags change -/
theorem RWI.lo {r r' : Int → Int} {N M : Int} (h : RWI r N) (hM : N ≤ M) (e : ∀ i, 0 ≤ i → (i < 2 ∨ (5 ≤ i ∧ i < 11) ∨ (17 ≤ i ∧ i < 359) ∨ 6359 ≤ i) → r' i = r i) (hl : LO r' M) (hC : CAN r') : RWI r' M := by
  have hG := h.gi
  have hsg : SG r r' := fun i i1 i2 i3 i4 => e i i1 (by omega)
  have b1 := hG.2.1
  obtain ⟨hg, -, ⟨m1, m2, m3, m4⟩, ⟨w1, w2, w3⟩, ⟨v1, v2, v3, v4⟩, -⟩ := h
  refine ⟨hg.row hsg, hl, ⟨fun l a b => by rw [e _ (by omega) (by omega)]; exact m1 l a b, fun i a b => by rw [e _ (by omega) (by omega)]; exact m2 i a b, fun w k a b c d => ?_, fun w k i a b c d f g => ?_⟩, ⟨fun w a b => by rw [e _ (by omega) (by omega)]; exact w1 w a b, fun x a b => by rw [e _ (by omega) (by omega)]; exact w2 x a b, fun x a b => by rw [e _ (by omega) (by omega)]; exact w3 x a b⟩, ⟨(v1.mono hM).row (fun i _ _ => e i (by omega) (by omega)), fun i a b => by rw [e _ (by omega) (by omega)]; exact v2 i a b, fun w x a b c d f => ?_, fun w i a b c d => ?_⟩, hC⟩
  · rw [e 1 (by omega) (by omega)] at c
    rw [e _ (by omega) (by omega)]; exact m3 w k a b c d
  · rw [e 1 (by omega) (by omega)] at d
    rw [e _ (by omega) (by omega)] at g
    have z := m1 (10 * w + k) (by omega) (by omega)
    rw [e _ (by omega) (by omega)]
    exact hsg.vs hG (m4 w k i a b c d f g)
  · rw [e _ (by omega) (by omega)] at f
    exact hsg.vs hG (v3 w x a b c d f)
  · rw [e _ (by omega) (by omega)] at d
    rw [e _ (by omega) (by omega)]
    exact hsg.vs hG (v4 w i a b c d)
theorem RWI.mono {r : Int → Int} {N M : Int} (h : RWI r N) (hM : N ≤ M) : RWI r M := by
  obtain ⟨hg, ⟨l1, l2, l3, l4⟩, hm, hw, ⟨v1, v2, v3, v4⟩, hC⟩ := h
  refine ⟨hg, ⟨l1, ?_, l3, l4⟩, hm, hw, ⟨v1.mono hM, v2, v3, v4⟩, hC⟩
  unfold VN at l2 ⊢
  omega

