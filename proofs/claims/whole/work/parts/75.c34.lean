/-! cycles -/
def CPr (r : Int → Int) (n x : Int) : Prop := CP (fun j => r (5 + j)) (fun e => r (17 + e)) (fun e => r (27 + e)) (fun e => m_kind r e) (r 1) n x
def NCy (r : Int → Int) : Prop := ∀ n, 0 ≤ n → n < r 0 → ¬ CPr r n n
theorem mk3 {r : Int → Int} {e : Int} : m_kind r e = 3 ↔ r (37 + e) = 1 := by
  unfold m_kind
  constructor
  · intro h
    by_cases q : r (37 + e) = 1
    · exact q
    · rw [if_neg q] at h
      split at h
      · omega
      · split at h <;> omega
  · intro h
    rw [if_pos h]
theorem CP_cong {fd fs fe fk fd' fs' fe' fk' : Int → Int} {m n x : Int} (h : ∀ e, 0 ≤ e → e < m → fs' e = fs e ∧ fe' e = fe e ∧ fk' e = fk e ∧ fd' (fe e) = fd (fe e)) (hn : fd' n = fd n) (c : CP fd fs fe fk m n x) : CP fd' fs' fe' fk' m n x := by
  intro S hS
  refine c S (fun e e1 e2 e3 e4 => ?_)
  obtain ⟨a1, a2, a3, a4⟩ := h e e1 e2
  rw [← a2]
  refine hS e e1 e2 (by rw [a1]; exact e3) ?_
  unfold CE at e4 ⊢
  rw [a2, a3, a4, hn]
  exact e4
theorem EOK_of {r : Int → Int} (hG : GV r) {lt e : Int} (he : 0 ≤ e ∧ e < r 1) (h1 : lt ≤ r (5 + r (17 + e))) (h2 : lt ≤ r (5 + r (27 + e))) (h3 : ¬ (m_kind r e = 3 ∧ r (5 + r (27 + e)) = lt)) : EOK r lt e := by
  have g1 := hG.2.1 e he.1 he.2
  have g2 := hG.1.ed e he.1 (by have := hG.1.2.1; omega)
  refine ⟨h1, h2, ?_⟩
  by_cases q : r (37 + e) = 1
  · have q2 := (g1.2.2 q).1
    have q3 : ¬ r (5 + r (27 + e)) = lt := fun q4 => h3 ⟨mk3.mpr q, q4⟩
    omega
  · omega
theorem EOK_ce {r : Int → Int} (hG : GV r) {lt e : Int} (he : 0 ≤ e ∧ e < r 1) (h : EOK r lt e) : ¬ (m_kind r e = 3 ∧ r (5 + r (27 + e)) = lt) := by
  have g1 := hG.2.1 e he.1 he.2
  rintro ⟨q1, q2⟩
  have q3 := mk3.mp q1
  have q4 := (g1.2.2 q3).1
  have := h.2.2
  omega
theorem Pth_lo {r : Int → Int} {lt a b : Int} (h : Pth r lt a b) (h0 : lt ≤ r (5 + a)) : lt ≤ r (5 + b) := h (fun b => lt ≤ r (5 + b)) h0 (fun e _ _ _ ok => ok.2.1)
theorem Pth_st {r : Int → Int} {lt a e : Int} (h : Pth r lt a (r (17 + e))) (he : 0 ≤ e ∧ e < r 1) (ok : EOK r lt e) : Pth r lt a (r (27 + e)) := fun S s0 sc => sc e he.1 he.2 (h S s0 sc) ok
theorem cp_pth {r : Int → Int} (hG : GV r) {n b : Int} (h : CPr r n b) : Pth r (r (5 + n)) n b := by
  have k : Pth r (r (5 + n)) n b ∧ r (5 + n) ≤ r (5 + b) := by
    refine h (fun b => Pth r (r (5 + n)) n b ∧ r (5 + n) ≤ r (5 + b)) (fun e e1 e2 e3 e4 => ?_)
    have e5 : r (5 + n) ≤ r (5 + r (27 + e)) := e4.1
    have e6 : Pth r (r (5 + n)) n (r (17 + e)) ∧ r (5 + n) ≤ r (5 + r (17 + e)) := by
      rcases e3 with e3 | e3
      · have e3' : r (17 + e) = n := e3
        rw [e3']
        exact ⟨fun S s0 _ => s0, Int.le_refl _⟩
      · exact e3
    exact ⟨Pth_st e6.1 ⟨e1, e2⟩ (EOK_of hG ⟨e1, e2⟩ e6.2 e5 e4.2), e5⟩
  exact k.1
section
variable {r fd fs fe fk : Int → Int}
theorem allow_no (hG : GV r) (hE : GE r (r 0) (r 1) fd fs fe fk) (hC : NCy r) {x y z : Int} (hx : 0 ≤ x ∧ x < r 0) (hy : 0 ≤ y ∧ y < r 0) (hz : 0 ≤ z ∧ z ≤ 1) (hd : z = 1 → r (5 + x) = r (5 + y)) (hm : ∀ lt, 0 ≤ lt → lt ≤ r (5 + x) → lt ≤ r (5 + y) → ¬ m_ret r x y z lt) {n : Int} (hn : 0 ≤ n ∧ n < r 0) : ¬ CP fd (fu fs (r 1) x) (fu fe (r 1) y) (fu fk (r 1) (c_kb fd x y z)) (r 1 + 1) n n := by
  intro hc
  have b0 := hG.1.1
  have b1 := hG.1.2.1
  have dn := hE.2.1 n hn.1 (by omega)
  have dx := hE.2.1 x hx.1 (by omega)
  have dy := hE.2.1 y hy.1 (by omega)
  have key : CPr r n n ∨ ((r (5 + n) ≤ r (5 + y) ∧ ¬ (c_kb fd x y z = 3 ∧ r (5 + y) = r (5 + n))) ∧ Pth r (r (5 + n)) n x ∧ Pth r (r (5 + n)) y n) := by
    refine hc (fun b => CPr r n b ∨ ((r (5 + n) ≤ r (5 + y) ∧ ¬ (c_kb fd x y z = 3 ∧ r (5 + y) = r (5 + n))) ∧ Pth r (r (5 + n)) n x ∧ Pth r (r (5 + n)) y b)) (fun e e1 e2 e3 e4 => ?_)
    unfold CE at e4
    by_cases q : e = r 1
    · subst q
      rw [fu_s, fu_s, dy, dn] at e4
      rw [fu_s] at e3
      rw [fu_s]
      refine Or.inr ⟨e4, ?_, fun S s0 _ => s0⟩
      rcases e3 with e3 | e3 | e3
      · rw [e3]; exact fun S s0 _ => s0
      · exact cp_pth hG e3
      · exact e3.2.1
    · have he : 0 ≤ e ∧ e < r 1 := ⟨e1, by omega⟩
      obtain ⟨a1, a2, a3⟩ := hE.2.2 e he.1 he.2
      have g2 := hG.1.ed e he.1 (by omega)
      rw [fu_n q, fu_n q, a2, a3, hE.2.1 _ g2.2.1.1 g2.2.1.2, dn] at e4
      rw [fu_n q, a1] at e3
      rw [fu_n q, a2]
      rcases e3 with e3 | e3 | e3
      · exact Or.inl (fun S hS => hS e he.1 he.2 (Or.inl e3) e4)
      · exact Or.inl (fun S hS => hS e he.1 he.2 (Or.inr (e3 S hS)) e4)
      · exact Or.inr ⟨e3.1, e3.2.1, Pth_st e3.2.2 he (EOK_of hG he (Pth_lo e3.2.2 e3.1.1) e4.1 e4.2)⟩
  rcases key with k | ⟨k1, k2, k3⟩
  · exact hC n hn.1 hn.2 k
  · have d0 := hG.1.2.2.1 n hn.1 (by omega)
    refine hm (r (5 + n)) d0.1 (Pth_lo k2 (Int.le_refl _)) k1.1 ⟨?_, n, ⟨hn.1, by omega⟩, k3, rfl, k2⟩
    rintro ⟨q1, q2⟩
    have q3 := hd q1
    refine k1.2 ⟨?_, by omega⟩
    unfold c_kb
    rw [if_pos (by omega), if_neg (by omega)]
theorem allow_yes (hG : GV r) (hE : GE r (r 0) (r 1) fd fs fe fk) {x y z : Int} (hx : 0 ≤ x ∧ x < r 0) (hy : 0 ≤ y ∧ y < r 0) (hz : 0 ≤ z ∧ z ≤ 1) (hb : ∀ n, 0 ≤ n → n < r 0 → ¬ CP fd (fu fs (r 1) x) (fu fe (r 1) y) (fu fk (r 1) (c_kb fd x y z)) (r 1 + 1) n n) : ∀ lt, 0 ≤ lt → lt ≤ r (5 + x) → lt ≤ r (5 + y) → ¬ m_ret r x y z lt := by
  intro lt l0 l1 l2 ⟨hz2, m, hm6, p1, hmd, p2⟩
  have b0 := hG.1.1
  have b1 := hG.1.2.1
  have hm : 0 ≤ m ∧ m < r 0 := p1 (fun b => 0 ≤ b ∧ b < r 0) hy (fun e e1 e2 _ _ => ⟨(hG.1.ed e e1 (by omega)).2.1.1, (hG.2.1 e e1 e2).1.2⟩)
  have dm := hE.2.1 m hm.1 (by omega)
  have dx := hE.2.1 x hx.1 (by omega)
  have dy := hE.2.1 y hy.1 (by omega)
  have stp : ∀ e, 0 ≤ e → e < r 1 → EOK r lt e → CE fd (fu fe (r 1) y) (fu fk (r 1) (c_kb fd x y z)) (fd m) e := fun e e1 e2 ok => by
    obtain ⟨a1, a2, a3⟩ := hE.2.2 e e1 e2
    have g2 := hG.1.ed e e1 (by omega)
    unfold CE
    rw [fu_n (by omega), fu_n (by omega), a2, a3, hE.2.1 _ g2.2.1.1 g2.2.1.2, dm, hmd]
    exact ⟨ok.2.1, EOK_ce hG ⟨e1, e2⟩ ok⟩
  have hx2 : x = m ∨ CP fd (fu fs (r 1) x) (fu fe (r 1) y) (fu fk (r 1) (c_kb fd x y z)) (r 1 + 1) m x := by
    refine p2 (fun b => b = m ∨ CP fd (fu fs (r 1) x) (fu fe (r 1) y) (fu fk (r 1) (c_kb fd x y z)) (r 1 + 1) m b) (Or.inl rfl) (fun e e1 e2 e3 ok => Or.inr (fun S hS => ?_))
    obtain ⟨a1, a2, a3⟩ := hE.2.2 e e1 e2
    have k := hS e e1 (by omega) (by rw [fu_n (by omega), a1]; exact e3.imp id (fun c => c S hS)) (stp e e1 e2 ok)
    rw [fu_n (by omega), a2] at k
    exact k
  have hy2 : CP fd (fu fs (r 1) x) (fu fe (r 1) y) (fu fk (r 1) (c_kb fd x y z)) (r 1 + 1) m y := by
    intro S hS
    have k := hS (r 1) b1.1 (by omega) (by rw [fu_s]; exact hx2.imp id (fun c => c S hS)) (by
      unfold CE
      rw [fu_s, fu_s, dy, dm, hmd]
      refine ⟨l2, ?_⟩
      rintro ⟨q1, q2⟩
      unfold c_kb at q1
      by_cases q3 : fd x = fd y
      · rw [if_pos q3] at q1
        by_cases q4 : z = 0
        · rw [if_pos q4] at q1; omega
        · exact hz2 ⟨by omega, by omega⟩
      · rw [if_neg q3] at q1
        split at q1 <;> omega)
    rw [fu_s] at k
    exact k
  refine hb m hm.1 hm.2 ?_
  refine p1 (fun b => CP fd (fu fs (r 1) x) (fu fe (r 1) y) (fu fk (r 1) (c_kb fd x y z)) (r 1 + 1) m b) hy2 (fun e e1 e2 e3 ok => fun S hS => ?_)
  obtain ⟨a1, a2, a3⟩ := hE.2.2 e e1 e2
  have k := hS e e1 (by omega) (by rw [fu_n (by omega), a1]; exact Or.inr (e3 S hS)) (stp e e1 e2 ok)
  rw [fu_n (by omega), a2] at k
  exact k
end
theorem allow_iff {r fd fs fe fk : Int → Int} (hG : GV r) (hE : GE r (r 0) (r 1) fd fs fe fk) (hC : NCy r) {x y z : Int} (hx : 0 ≤ x ∧ x < r 0) (hy : 0 ≤ y ∧ y < r 0) (hz : 0 ≤ z ∧ z ≤ 1) (h2 : ¬ r 2 = 1) (h3 : r (11 + y) = -1) : c_allow (r 0) (r 1) fd fs fe fk x y z ↔ m_may r x y z := by
  have b0 := hG.1.1
  have dx := hE.2.1 x hx.1 (by omega)
  have dy := hE.2.1 y hy.1 (by omega)
  unfold c_allow m_may
  rw [dx, dy]
  constructor
  · rintro ⟨⟨c1, c2⟩, c3⟩
    exact ⟨⟨⟨⟨h2, h3⟩, c1⟩, fun q => ⟨(c2 q).1, by have := c2 q; omega⟩⟩, allow_yes hG hE hx hy hz (fun n n1 n2 => c3 n n1 n2)⟩
  · rintro ⟨⟨⟨-, c1⟩, c2⟩, c3⟩
    exact ⟨⟨c1, fun q => ⟨(c2 q).1, by have := c2 q; omega⟩⟩, fun n n1 n2 => allow_no hG hE hC hx hy hz (fun q => by have := (c2 q).1; omega) c3 ⟨n1, n2⟩⟩
theorem me_o {r : Int → Int} {x y z i : Int} (h : ¬ i = 1) (h1 : ¬ i = 17 + r 1) (h2 : ¬ i = 27 + r 1) (h3 : ¬ i = 37 + r 1) : m_edge r x y z i = r i := by
  unfold m_edge; rw [fu_n h, fu_n h3, fu_n h2, fu_n h1]
theorem me_1 {r : Int → Int} {x y z : Int} : m_edge r x y z 1 = r 1 + 1 := by unfold m_edge; rw [fu_s]
theorem me_s {r : Int → Int} {x y z e : Int} (hb : 0 ≤ r 1 ∧ r 1 < 10) (he : 0 ≤ e ∧ e < 10) : m_edge r x y z (17 + e) = fu (fun e => r (17 + e)) (r 1) x e ∧ m_edge r x y z (27 + e) = fu (fun e => r (27 + e)) (r 1) y e ∧ m_edge r x y z (37 + e) = fu (fun e => r (37 + e)) (r 1) z e := by
  by_cases q : e = r 1
  · subst q
    rw [fu_s, fu_s, fu_s]
    unfold m_edge
    refine ⟨?_, ?_, ?_⟩
    · rw [fu_n (by omega), fu_n (by omega), fu_n (by omega), fu_s]
    · rw [fu_n (by omega), fu_n (by omega), fu_s]
    · rw [fu_n (by omega), fu_s]
  · rw [fu_n q, fu_n q, fu_n q]
    exact ⟨me_o (by omega) (by omega) (by omega) (by omega), me_o (by omega) (by omega) (by omega) (by omega), me_o (by omega) (by omega) (by omega) (by omega)⟩
theorem me_k {r fd : Int → Int} {x y z e : Int} (hG : GI r) (hb : 0 ≤ r 1 ∧ r 1 < 10) (hd : ∀ j, 0 ≤ j → j < 6 → fd j = r (5 + j)) (hx : 0 ≤ x ∧ x < 6) (hy : 0 ≤ y ∧ y < 6) (hz : 0 ≤ z ∧ z ≤ 1) (hzd : z = 1 → r (5 + x) = r (5 + y)) (he : 0 ≤ e ∧ e < 10) : m_kind (m_edge r x y z) e = fu (fun e => m_kind r e) (r 1) (c_kb fd x y z) e := by
  obtain ⟨a1, a2, a3⟩ := me_s (x := x) (y := y) (z := z) hb he
  have g := hG.ed e he.1 he.2
  have o5 : ∀ j, 0 ≤ j → j < 6 → m_edge r x y z (5 + j) = r (5 + j) := fun j _ _ => me_o (by omega) (by omega) (by omega) (by omega)
  unfold m_kind
  rw [a1, a2, a3]
  by_cases q : e = r 1
  · subst q
    rw [fu_s, fu_s, fu_s, fu_s, o5 _ hy.1 hy.2, o5 _ hx.1 hx.2]
    unfold c_kb
    rw [hd x hx.1 hx.2, hd y hy.1 hy.2]
    by_cases q1 : z = 1
    · have := hzd q1
      rw [if_pos q1, if_pos this, if_neg (by omega)]
    · rw [if_neg q1]
      by_cases q2 : r (5 + x) = r (5 + y)
      · rw [if_pos (by omega), if_pos q2, if_pos (by omega)]
      · rw [if_neg (by omega), if_neg q2]
        by_cases q3 : r (5 + x) < r (5 + y)
        · rw [if_pos (by omega), if_pos q3]
        · rw [if_neg (by omega), if_neg q3]
  · rw [fu_n q, fu_n q, fu_n q, fu_n q, o5 _ g.2.1.1 g.2.1.2, o5 _ g.1.1 g.1.2]
theorem GE.edge {r fd fs fe fk : Int → Int} {x y z : Int} (hG : GI r) (hb : 0 ≤ r 1 ∧ r 1 < 10) (hE : GE r (r 0) (r 1) fd fs fe fk) (hx : 0 ≤ x ∧ x < 6) (hy : 0 ≤ y ∧ y < 6) (hz : 0 ≤ z ∧ z ≤ 1) (hzd : z = 1 → r (5 + x) = r (5 + y)) : GE (m_edge r x y z) (r 0) (r 1 + 1) fd (fu fs (r 1) x) (fu fe (r 1) y) (fu fk (r 1) (c_kb fd x y z)) := by
  refine ⟨⟨(me_o (by omega) (by omega) (by omega) (by omega)).symm, me_1.symm⟩, fun j j1 j2 => ?_, fun j j1 j2 => ?_⟩
  · rw [me_o (by omega) (by omega) (by omega) (by omega)]; exact hE.2.1 j j1 j2
  · rw [me_1] at j2
    obtain ⟨a1, a2, a3⟩ := me_s (x := x) (y := y) (z := z) hb (e := j) ⟨j1, by omega⟩
    rw [a1, a2, me_k (fd := fd) hG hb hE.2.1 hx hy hz hzd ⟨j1, by omega⟩]
    by_cases q : j = r 1
    · subst q; rw [fu_s, fu_s, fu_s, fu_s, fu_s, fu_s]; exact ⟨rfl, rfl, rfl⟩
    · rw [fu_n q, fu_n q, fu_n q, fu_n q, fu_n q, fu_n q]; exact hE.2.2 j j1 (by omega)

