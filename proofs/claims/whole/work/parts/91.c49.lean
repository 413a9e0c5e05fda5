theorem pi_rd {σ : St} {c v : Int} {p : Prop} (h : PI σ c) : PI (pif p (v, σ) (sp_fail σ (-2))).2 (c + 1) := by
  by_cases q : p
  · rw [pif_t q]; exact h.mono (by omega)
  · rw [pif_f q]; exact h.fail (by omega)
theorem VS.mk {r : Int → Int} {p t : Int} (hp : m_place r p) (ht : m_time r p t) : VS r (1000 * p + t) := by
  have h := ht.1
  unfold VS
  rw [show (1000 * p + t) / 1000 = p by omega, show (1000 * p + t) % 1000 = t by omega]
  exact ⟨hp, ht⟩
theorem VS.un {r : Int → Int} {p t : Int} (ht : 0 ≤ t ∧ t ≤ 999) (h : VS r (1000 * p + t)) : m_place r p ∧ m_time r p t := by
  unfold VS at h
  rw [show (1000 * p + t) / 1000 = p by omega, show (1000 * p + t) % 1000 = t by omega] at h
  exact h
theorem VS.out {r : Int → Int} {nd t x : Int} (hG : GV r) (ht : 0 ≤ t ∧ t ≤ 999) (hnd : 0 ≤ nd ∧ nd < 6) (h : VS r (1000 * nd + t)) (hx : 0 ≤ x ∧ x < r 1) (hs : r (17 + x) = nd) : VS r (1000 * (6 + x) + t) := by
  obtain ⟨h1, h2⟩ := h.un ht
  refine VS.mk (Or.inr ⟨by omega, by omega⟩) ⟨ht, ?_⟩
  have h3 := h2.2
  have e : m_depth r (6 + x) = m_depth r nd := by
    unfold m_depth
    rw [if_neg (by omega), if_pos (by omega), show 17 + (6 + x) - 6 = 17 + x by omega, hs]
  rw [e]; exact h3
theorem mt_moved {r : Int → Int} {e t : Int} (hG : GV r) (he : 0 ≤ e ∧ e < r 1) (ht : m_time r (6 + e) t) (hn : ¬ m_moved r e t = -1) : m_time r (r (27 + e)) (m_moved r e t) := by
  have b1 := hG.1.2.1
  obtain ⟨g1, g2, g3⟩ := hG.2.1 e he.1 he.2
  have g := hG.1.ed e he.1 (by omega)
  have d1 := hG.1.2.2.1 (r (17 + e)) g.1.1 g.1.2
  have d2 := hG.1.2.2.1 (r (27 + e)) g.2.1.1 g.2.1.2
  obtain ⟨t1, t2⟩ := ht
  have e1 : m_depth r (6 + e) = r (5 + r (17 + e)) := by
    unfold m_depth
    rw [if_neg (by omega), show 17 + (6 + e) - 6 = 17 + e by omega]
  have e2 : m_depth r (r (27 + e)) = r (5 + r (27 + e)) := by
    unfold m_depth
    rw [if_pos (by omega)]
  rw [e1] at t2
  unfold m_time
  rw [e2]
  by_cases q1 : r (37 + e) = 1
  · have k : m_kind r e = 3 := mk3.mpr q1
    have q2 := g3 q1
    unfold m_moved at hn ⊢
    rw [if_neg (by omega), if_pos k] at hn ⊢
    by_cases q4 : r (5 + r (17 + e)) = 2
    · rw [if_pos q4] at hn ⊢
      by_cases q5 : t % 10 = 9
      · rw [if_pos q5] at hn; exact absurd rfl hn
      · rw [if_neg q5]; omega
    · rw [if_neg q4] at hn ⊢
      by_cases q5 : t / 10 % 10 = 9
      · rw [if_pos q5] at hn; exact absurd rfl hn
      · rw [if_neg q5]; omega
  · have k : m_kind r e = if r (5 + r (27 + e)) - r (5 + r (17 + e)) = 0 then 0 else if 0 < r (5 + r (27 + e)) - r (5 + r (17 + e)) then 1 else 2 := if_neg q1
    unfold m_moved
    by_cases q2 : r (5 + r (27 + e)) - r (5 + r (17 + e)) = 0
    · rw [if_pos q2] at k
      rw [if_neg (by omega), if_neg (by omega)]; omega
    · rw [if_neg q2] at k
      by_cases q3 : 0 < r (5 + r (27 + e)) - r (5 + r (17 + e))
      · rw [if_pos q3] at k
        rw [if_neg (by omega), if_neg (by omega)]; omega
      · rw [if_neg q3] at k
        rw [if_pos k]
        by_cases q4 : r (5 + r (17 + e)) = 2
        · rw [if_pos q4]; omega
        · rw [if_neg q4]; omega
theorem RWI.set4 {r : Int → Int} {N v : Int} (h : RWI r N) (hv : 0 ≤ v ∧ v ≤ N) : RWI (fu r 4 v) N := by
  obtain ⟨l1, l2, l3, l4⟩ := h.2.1
  have b0 := h.gi.1
  refine h.lo (Int.le_refl _) (fun i _ hi => fu_n (by omega)) ⟨fun n a b => by rw [fu_n (by omega)]; exact l1 n a b, ?_, by rw [fu_n (by omega)]; exact l3, fun n a b c => ?_⟩ (CAN_fu h.2.2.2.2.2 (by omega))
  · unfold VN at l2 ⊢
    rw [fu_n (by omega), fu_s]; omega
  · rw [fu_n (by omega)] at b
    rw [fu_n (by omega)] at c ⊢
    exact l4 n a b c
theorem pi_send {r pf er : Int → Int} {sv c e w : Int} (h : PI (r, pf, sv, er) c) (hc : 0 ≤ c ∧ c ≤ 600) : PI (sp_send (r, pf, sv, er) e w).2 (c + 1) := by
  have hR := h.1
  dsimp only at hR
  unfold sp_send
  by_cases q1 : (0 ≤ e ∧ e ≤ r 1 - 1) ∧ 0 ≤ w ∧ w ≤ 1
  · rw [pif_t q1]
    by_cases q2 : r (11 + r (17 + e)) < 0
    · rw [pif_t q2]; exact h.fail (by omega)
    · rw [pif_f q2]
      by_cases q3 : r (47 + (10 * w + e)) = 12
      · rw [pif_t q3]; exact h.fail (by omega)
      · rw [pif_f q3]
        have hG := hR.1.1
        have b1 := hG.1.2.1
        have ed := hG.1.ed e q1.1.1 (by omega)
        have gv := (hG.2.1 e q1.1.1 (by omega)).1
        have eo := hR.2.1.1 (r (17 + e)) ed.1.1 ed.1.2
        have dp := hR.2.1.2.2.2 (r (17 + e)) ed.1.1 gv.1 (by omega)
        have hv : VS r (1000 * (6 + e) + 100 * r (11 + r (17 + e))) := by
          refine VS.mk (Or.inr ⟨by omega, by omega⟩) ⟨by omega, Or.inr (Or.inr ⟨?_, by omega⟩)⟩
          unfold m_depth
          rw [if_neg (by omega), show 17 + (6 + e) - 6 = 17 + e by omega]; exact dp
        have zz := hR.2.2.1.1 (10 * w + e) (by omega) (by omega)
        have h1 := hR.put q1.2 (e := e) (t := 100 * r (11 + r (17 + e))) (by omega) (by omega) (by omega) hv
        have sg1 : SG r (m_put r w e (100 * r (11 + r (17 + e)))) := fun i _ i2 _ _ => mp_o q1.2 (by omega) (by omega) (by omega)
        have h2 := h1.upd (w := 0) (p := 6 + e) (t := 100 * r (11 + r (17 + e))) (c := 1) (by omega) (by omega) (by omega) (by omega) (Or.inl rfl) (sg1.vs hG.1 hv)
        have sg2 := sg1.trans (SG.upd (w := 0) (p := 6 + e) (t := 100 * r (11 + r (17 + e))) (c := 1) h1.2.2.2.2.1.1 (by omega) (by omega) (by omega))
        exact h.new (h2.mono (by omega)) (sg2.px hG.1)
  · rw [pif_f q1]; exact h.fail (by omega)
theorem VS.inp {r : Int → Int} {n t : Int} (hG : GI r) (hn : 0 ≤ n ∧ n < r 0) (hd : r (5 + n) = 0) (ht : (0 ≤ t ∧ t ≤ 999) ∧ t % 100 = 0) : VS r (1000 * n + t) := by
  have b0 := hG.1
  refine VS.mk (Or.inl ⟨by omega, by omega, by omega⟩) ⟨ht.1, Or.inr (Or.inr ⟨?_, ht.2⟩)⟩
  unfold m_depth
  rw [if_pos (by omega)]; exact hd
theorem pi_advance {r pf er : Int → Int} {sv c n : Int} (h : PI (r, pf, sv, er) c) (hc : 0 ≤ c ∧ c ≤ 600) : PI (sp_advance (r, pf, sv, er) n).2 (c + 1) := by
  have hR := h.1
  dsimp only at hR
  unfold sp_advance
  by_cases q1 : 0 ≤ n ∧ n ≤ r 0 - 1
  · rw [pif_t q1]
    by_cases q2 : r (11 + n) < 0 ∨ r (11 + n) = 9
    · rw [pif_t q2]; exact h.fail (by omega)
    · rw [pif_f q2]
      have hG := hR.1.1.1
      have b0 := hG.1
      have eo := hR.2.1.1 n q1.1 (by omega)
      have dp := hR.2.1.2.2.2 n q1.1 (by omega) (by omega)
      have h1 := hR.ep (n := n) (v := r (11 + n) + 1) (by omega) (by omega) (fun _ => dp)
      have sg1 : SG r (fu r (11 + n) (r (11 + n) + 1)) := SG.fe r (by omega)
      have v1 : VS r (1000 * n + 100 * (r (11 + n) + 1)) := VS.inp hG (by omega) dp (by omega)
      have v2 : VS r (1000 * n + 100 * r (11 + n)) := VS.inp hG (by omega) dp (by omega)
      have h2 := h1.upd (w := 0) (p := n) (t := 100 * (r (11 + n) + 1)) (c := 1) (by omega) (by omega) (by omega) (by omega) (Or.inl rfl) (sg1.vs hG v1)
      have sg2 := sg1.trans (SG.upd (w := 0) (p := n) (t := 100 * (r (11 + n) + 1)) (c := 1) h1.2.2.2.2.1.1 (by omega) (by omega) (by omega))
      have h3 := h2.upd (w := 0) (p := n) (t := 100 * r (11 + n)) (c := -1) (by omega) (by omega) (by omega) (by omega) (Or.inr rfl) (sg2.vs hG v2)
      have sg3 := sg2.trans (SG.upd (w := 0) (p := n) (t := 100 * r (11 + n)) (c := -1) h2.2.2.2.2.1.1 (by omega) (by omega) (by omega))
      exact h.new (h3.mono (by omega)) (sg3.px hG)
  · rw [pif_f q1]; exact h.fail (by omega)
theorem pi_close {r pf er : Int → Int} {sv c n : Int} (h : PI (r, pf, sv, er) c) (hc : 0 ≤ c ∧ c ≤ 600) : PI (sp_close (r, pf, sv, er) n).2 (c + 1) := by
  have hR := h.1
  dsimp only at hR
  unfold sp_close
  by_cases q1 : 0 ≤ n ∧ n ≤ r 0 - 1
  · rw [pif_t q1]
    by_cases q2 : r (11 + n) < 0
    · rw [pif_t q2]; exact h.fail (by omega)
    · rw [pif_f q2]
      have hG := hR.1.1.1
      have b0 := hG.1
      have eo := hR.2.1.1 n q1.1 (by omega)
      have dp := hR.2.1.2.2.2 n q1.1 (by omega) (by omega)
      have h1 := hR.ep (n := n) (v := -2) (by omega) (by omega) (fun q => absurd q (by omega))
      have sg1 : SG r (fu r (11 + n) (-2)) := SG.fe r (by omega)
      have v2 : VS r (1000 * n + 100 * r (11 + n)) := VS.inp hG (by omega) dp (by omega)
      have h3 := h1.upd (w := 0) (p := n) (t := 100 * r (11 + n)) (c := -1) (by omega) (by omega) (by omega) (by omega) (Or.inr rfl) (sg1.vs hG v2)
      have sg3 := sg1.trans (SG.upd (w := 0) (p := n) (t := 100 * r (11 + n)) (c := -1) h1.2.2.2.2.1.1 (by omega) (by omega) (by omega))
      exact h.new (h3.mono (by omega)) (sg3.px hG)
  · rw [pif_f q1]; exact h.fail (by omega)
theorem pi_addNode {r pf er : Int → Int} {sv c d i : Int} (h : PI (r, pf, sv, er) c) (hc : 0 ≤ c ∧ c ≤ 600) : PI (sp_addNode (r, pf, sv, er) d i).2 (c + 1) := by
  have hR := h.1
  dsimp only at hR
  unfold sp_addNode
  by_cases q1 : ((0 ≤ d ∧ d ≤ 2) ∧ 0 ≤ i ∧ i ≤ 1) ∧ ¬ (i = 1 ∧ d ≠ 0)
  · rw [pif_t q1]
    by_cases q2 : r 2 = 1
    · rw [pif_t q2]; exact h.fail (by omega)
    · rw [pif_f q2]
      by_cases q3 : r 0 = 6
      · rw [pif_t q3]; exact h.fail (by omega)
      · rw [pif_f q3]
        have b0 := hR.gi.1
        exact h.new ((hR.node (by omega) (by omega) (by omega) (by omega) (by omega)).mono (by omega)) (PX.node (r := r) hR.gi (by omega))
  · rw [pif_f q1]; exact h.fail (by omega)
theorem pi_addEdge {r pf er : Int → Int} {sv c x y z : Int} (h : PI (r, pf, sv, er) c) (hc : 0 ≤ c ∧ c ≤ 600) : PI (sp_addEdge (r, pf, sv, er) x y z).2 (c + 1) := by
  have hR := h.1
  dsimp only at hR
  unfold sp_addEdge
  by_cases q1 : ((0 ≤ x ∧ x ≤ r 0 - 1) ∧ 0 ≤ y ∧ y ≤ r 0 - 1) ∧ 0 ≤ z ∧ z ≤ 1
  · rw [pif_t q1]
    by_cases q2 : m_may r x y z
    · rw [pif_t q2]
      by_cases q3 : r 1 = 10
      · rw [pif_t q3]; exact h.fail (by omega)
      · rw [pif_f q3]
        have b1 := hR.gi.2.1
        exact h.new ((hR.edge (by omega) (by omega) (by omega) q1.2 q2).mono (by omega)) (PX.edge (r := r) hR.gi (by omega))
    · rw [pif_f q2]; exact h.fail (by omega)
  · rw [pif_f q1]; exact h.fail (by omega)
theorem pi_receive {r pf er : Int → Int} {sv c w k : Int} (h : PI (r, pf, sv, er) c) (hc : 0 ≤ c ∧ c ≤ 600) : PI (sp_receive (r, pf, sv, er) w k).2 (c + 1) := by
  have hR := h.1
  dsimp only at hR
  unfold sp_receive
  by_cases q1 : (0 ≤ w ∧ w ≤ 1) ∧ 1 ≤ k ∧ k ≤ 99
  · rw [pif_t q1]
    have hv := hR.2.2.2.2.1
    have hz := hv.1.q q1.1
    have hn : 0 ≤ m_cnt r w k ∧ m_cnt r w k ≤ r (357 + w) ∧ m_cnt r w k ≤ 99 := by
      unfold m_cnt
      split <;> omega
    have sg1 : SG r (m_rv r w (m_cnt r w k)) := fun i _ i2 _ _ => rv_o hv.1 hv.2.1 q1.1 (by omega) ⟨hn.1, hn.2.1⟩ (by omega) (by omega) (by omega)
    exact h.new ((hR.rv (by omega) q1.1 ⟨hn.1, hn.2.1⟩ hn.2.2).mono (by omega)) (sg1.px hR.gi)
  · rw [pif_f q1]; exact h.fail (by omega)

