theorem mrc_vs {r : Int → Int} {w N : Int} (hI : RI r N) (hQ : QI r) (hw : 0 ≤ w ∧ w ≤ 1) (hN : 0 ≤ N) (hv : VDv r) (hq : VDq r) {x : Int} (hx : 0 ≤ x ∧ x < 16000) : ∀ k : Nat, k ≤ 8192 → (k : Int) ≤ r (357 + w) → ¬ m_rc r w k (6359 + 16000 * w + x) = 0 → VS r x
  | 0, _, _, h => hv.at hw hx h
  | k + 1, hk, hk2, h => by
    have e1 := (m_rc_inv hI hQ hw hN k (by omega)).1 (38359 + 8192 * w + k) (by omega)
    have q1 := hQ (8192 * w + k) (by omega) (by omega)
    rw [show (38359 : Int) + (8192 * w + k) = 38359 + 8192 * w + k by omega] at q1
    simp only [m_rc] at h
    rw [e1] at h
    by_cases q : x = r (38359 + 8192 * w + k) / 2
    · rw [q]; exact hq w k hw.1 hw.2 (by omega) (by omega)
    · rw [fu_n (by omega)] at h
      exact mrc_vs hI hQ hw hN hv hq hx k (by omega) (by omega) h
theorem RWI.rv {r : Int → Int} {N w n : Int} (h : RWI r N) (hN : 0 ≤ N ∧ N < 8190) (hw : 0 ≤ w ∧ w ≤ 1) (hn : 0 ≤ n ∧ n ≤ r (357 + w)) (hn9 : n ≤ 99) : RWI (m_rv r w n) (N + 10) := by
  have hG := h.gi
  obtain ⟨v1, v2, v3, v4⟩ := h.2.2.2.2.1
  have hN1 : 0 ≤ N ∧ N < 8192 := by omega
  have hz := v1.q hw
  have hz2 := v1.q (w := 1 - w) (by omega)
  have lowc : ∀ i, i < 357 → m_rv r w n i = r i := fun i hi => rv_o v1 v2 hw hN1 hn (by omega) (by omega) (by omega)
  have hsg : SG r (m_rv r w n) := fun i _ _ _ _ => lowc i (by omega)
  have ezo : m_rv r w n (357 + (1 - w)) = r (357 + (1 - w)) := rv_o v1 v2 hw hN1 hn (by omega) (by omega) (by omega)
  have ez := rv_z v1 v2 hw hN1 hn
  have inv := m_rc_inv v1 v2 hw hN.1 n.toNat (by omega)
  refine h.vq (by omega) (fun i _ i2 _ => lowc i i2) (by rw [lowc 2 (by omega)]; exact h.2.1.2.2.1) ⟨⟨fun i i1 i2 => ?_, ?_⟩, fun i i1 i2 => ?_, fun u x u1 u2 x1 x2 x3 => ?_, fun u i u1 u2 i1 i2 => ?_⟩ ?_
  · rw [rv_v v1 v2 hw hN1 hn i1 i2]
    have := inv.2 i i1 i2
    omega
  · rcases (show w = 0 ∨ w = 1 by omega) with rfl | rfl
    · have a1 : m_rv r 0 n 357 = r 357 - n := ez
      have a2 : m_rv r 0 n 358 = r 358 := ezo
      have a3 : 0 ≤ r 357 ∧ r 357 ≤ N := hz
      have a4 : 0 ≤ r 358 ∧ r 358 ≤ N := hz2
      have a5 : n ≤ r 357 := hn.2
      omega
    · have a1 : m_rv r 1 n 358 = r 358 - n := ez
      have a2 : m_rv r 1 n 357 = r 357 := ezo
      have a3 : 0 ≤ r 358 ∧ r 358 ≤ N := hz
      have a4 : 0 ≤ r 357 ∧ r 357 ≤ N := hz2
      have a5 : n ≤ r 358 := hn.2
      omega
  · by_cases q : 8192 * w ≤ i ∧ i < 8192 * w + (r (357 + w) - n)
    · have e := rv_q v1 v2 hw hN1 hn (i := i - 8192 * w) (by omega) (by omega)
      rw [show 38359 + 8192 * w + (i - 8192 * w) = 38359 + i by omega] at e
      have z := v2 (i + n) (by omega) (by omega)
      rw [e, show 38359 + 8192 * w + (n + (i - 8192 * w)) = 38359 + (i + n) by omega]
      exact z
    · rw [rv_o v1 v2 hw hN1 hn (by omega) (by omega) (by omega)]
      exact v2 i i1 i2
  · refine hsg.vs hG ?_
    by_cases q : u = w
    · subst q
      rw [rv_v v1 v2 hw hN1 hn (by omega) (by omega)] at x3
      exact mrc_vs v1 v2 hw hN.1 v3 v4 ⟨x1, x2⟩ n.toNat (by omega) (by omega) x3
    · obtain rfl : u = 1 - w := by omega
      rw [rv_v v1 v2 hw hN1 hn (by omega) (by omega), mrc_o v1 v2 hw hN.1 n.toNat (by omega) x x1 x2] at x3
      exact v3 (1 - w) x u1 u2 x1 x2 x3
  · refine hsg.vs hG ?_
    by_cases q : u = w
    · subst q
      rw [ez] at i2
      rw [rv_q v1 v2 hw hN1 hn i1 i2]
      exact v4 u (n + i) u1 u2 (by omega) (by omega)
    · obtain rfl : u = 1 - w := by omega
      rw [ezo] at i2
      rw [rv_o v1 v2 hw hN1 hn (by omega) (by omega) (by omega)]
      exact v4 (1 - w) i u1 u2 i1 i2
  · intro j hj
    rw [rv_o v1 v2 hw hN1 hn (by omega) (by omega) (by omega)]
    exact h.2.2.2.2.2 j hj
theorem VS.node {r : Int → Int} {d i x : Int} (hG : GV r) (h0 : 0 ≤ r 0 ∧ r 0 < 6) (hv : VS r x) : VS (m_node r d i) x := by
  have b1 := hG.1.2.1
  obtain ⟨h1, h2⟩ := hv
  have p16 := m_place_rg hG.1 h1
  have e1 : m_node r d i 1 = r 1 := mn_o h0 (by omega) (by omega) (by omega)
  have hpl : m_place (m_node r d i) (x / 1000) := by
    unfold m_place at h1 ⊢
    rw [mn_0, e1]; omega
  have ed : m_depth (m_node r d i) (x / 1000) = m_depth r (x / 1000) := by
    unfold m_place at h1
    unfold m_depth
    by_cases q : x / 1000 < 6
    · rw [if_pos q, if_pos q, mn_d h0 (by omega), if_neg (by omega)]
    · have gg := (hG.2.1 (x / 1000 - 6) (by omega) (by omega)).1.1
      have g := hG.1.ed (x / 1000 - 6) (by omega) (by omega)
      have e2 : r (17 + (x / 1000 - 6)) = r (17 + x / 1000 - 6) := by congr 1; omega
      rw [e2] at gg g
      rw [if_neg q, if_neg q, mn_o (j := 17 + x / 1000 - 6) h0 (by omega) (by omega) (by omega), mn_d h0 (by omega), if_neg (by omega)]
  refine ⟨hpl, ?_⟩
  unfold m_time at h2 ⊢
  rw [ed]; exact h2
theorem RWI.node {r : Int → Int} {N d i : Int} (h : RWI r N) (hN : 0 ≤ N) (h0 : 0 ≤ r 0 ∧ r 0 < 6) (hd : 0 ≤ d ∧ d ≤ 2) (hi : 0 ≤ i ∧ i ≤ 1) (hid : i = 1 → d = 0) : RWI (m_node r d i) (N + 1) := by
  obtain ⟨⟨hGV, hNC, hTL⟩, ⟨l1, l2, l3, l4⟩, ⟨m1, m2, m3, m4⟩, ⟨w1, w2, w3⟩, ⟨v1, v2, v3, v4⟩, hC⟩ := h
  obtain ⟨hG, g2, g3⟩ := id hGV
  have b1 := hG.2.1
  have o : ∀ j, ¬ j = 0 → ¬ (5 ≤ j ∧ j < 17) → (j < 6359 ∨ 38359 ≤ j) → m_node r d i j = r j := fun j a b c => mn_o h0 a b c
  have o17 : ∀ j, 17 ≤ j → j < 6359 → m_node r d i j = r j := fun j _ _ => o j (by omega) (by omega) (by omega)
  have e1 := o 1 (by omega) (by omega) (by omega)
  have dn : ∀ j, 0 ≤ j → j < r 0 → m_node r d i (5 + j) = r (5 + j) := fun j a b => by rw [mn_d h0 (by omega), if_neg (by omega)]
  have kn : ∀ j, 0 ≤ j → j < r 1 → m_kind (m_node r d i) j = m_kind r j := fun j a b => by
    have g := hG.ed j a (by omega)
    have gg := (g2 j a b).1
    unfold m_kind
    rw [o17 (37 + j) (by omega) (by omega), o17 (27 + j) (by omega) (by omega), o17 (17 + j) (by omega) (by omega), dn _ g.2.1.1 gg.2, dn _ g.1.1 gg.1]
  refine ⟨⟨⟨⟨?_, ?_, fun j a b => ?_, fun j a b => ?_⟩, fun j a b => ?_, fun j a b => ?_⟩, fun n a b c => ?_, fun j a b => ?_⟩, ⟨fun j a b => ?_, ?_, ?_, fun j a b c => ?_⟩, ⟨fun l a b => by rw [o17 _ (by omega) (by omega)]; exact m1 l a b, fun k a b => by rw [o17 _ (by omega) (by omega)]; exact m2 k a b, fun w k a b c e => ?_, fun w k x a b c e f g => ?_⟩, ⟨fun w a b => by rw [o17 _ (by omega) (by omega)]; exact w1 w a b, fun x a b => by rw [o17 _ (by omega) (by omega)]; exact w2 x a b, fun x a b => by rw [o17 _ (by omega) (by omega)]; exact w3 x a b⟩, ⟨⟨fun k a b => ?_, ?_⟩, fun k a b => ?_, fun w x a b c e f => ?_, fun w k a b c e => ?_⟩, ?_⟩
  · rw [mn_0]; omega
  · rw [e1]; exact b1
  · rw [mn_d h0 ⟨a, b⟩]
    have := hG.2.2.1 j a b
    split <;> omega
  · rw [o17 _ (by omega) (by omega), o17 _ (by omega) (by omega), o17 _ (by omega) (by omega)]; exact hG.2.2.2 j a b
  · rw [e1] at b
    have g := hG.ed j a (by omega)
    have gg := g2 j a b
    rw [o17 (17 + j) (by omega) (by omega), o17 (27 + j) (by omega) (by omega), o17 (37 + j) (by omega) (by omega), mn_0, dn _ g.2.1.1 gg.1.2, dn _ g.1.1 gg.1.1]
    exact ⟨by omega, gg.2⟩
  · rw [mn_0] at a
    rw [mn_d h0 (by omega), if_neg (by omega)]; exact g3 j (by omega) b
  · rw [mn_0] at b
    by_cases q : n = r 0
    · unfold CPr at c
      rw [e1] at c
      refine c (fun _ => False) (fun e e1_ e2 e3 _ => ?_)
      have gg := (g2 e e1_ e2).1.1
      rcases e3 with e3 | e3
      · have e4 : m_node r d i (17 + e) = n := e3
        rw [o17 _ (by omega) (by omega)] at e4
        omega
      · exact e3
    · refine hNC n a (by omega) ?_
      unfold CPr at c ⊢
      rw [e1] at c
      refine CP_cong (fun k k1 k2 => ?_) (dn n a (by omega)).symm c
      have g := hG.ed k k1 (by omega)
      have gg := (g2 k k1 k2).1
      exact ⟨(o17 _ (by omega) (by omega)).symm, (o17 _ (by omega) (by omega)).symm, (kn k k1 k2).symm, by show r (5 + m_node r d i (27 + k)) = m_node r d i (5 + m_node r d i (27 + k)); rw [o17 (27 + k) (by omega) (by omega)]; exact (dn _ g.2.1.1 gg.2).symm⟩
  · rw [e1] at a
    rw [o17 _ (by omega) (by omega), o17 _ (by omega) (by omega), o17 _ (by omega) (by omega)]; exact hTL j a b
  · rw [mn_e h0 ⟨a, b⟩]
    have := l1 j a b
    split
    · split <;> omega
    · exact this
  · unfold VN at l2 ⊢
    rw [o 3 (by omega) (by omega) (by omega), o 4 (by omega) (by omega) (by omega)]; omega
  · rw [o 2 (by omega) (by omega) (by omega)]; exact l3
  · rw [mn_0] at b
    rw [mn_e h0 (by omega)] at c
    rw [mn_d h0 (by omega)]
    by_cases q : j = r 0
    · rw [if_pos q] at c ⊢
      by_cases q2 : i = 1
      · exact hid q2
      · rw [if_neg q2] at c; omega
    · rw [if_neg q] at c ⊢
      exact l4 j a (by omega) c
  · rw [e1] at c
    rw [o17 _ (by omega) (by omega)]; exact m3 w k a b c e
  · rw [e1] at e
    rw [o17 _ (by omega) (by omega)] at g
    have z := m1 (10 * w + k) (by omega) (by omega)
    rw [o17 _ (by omega) (by omega)]
    exact (m4 w k x a b c e f g).node hGV h0
  · obtain ⟨w_, x_, hw_, hx_, rfl⟩ : ∃ w_ x_, (0 ≤ w_ ∧ w_ ≤ 1) ∧ (0 ≤ x_ ∧ x_ < 16000) ∧ k = 6359 + 16000 * w_ + x_ := ⟨(k - 6359) / 16000, (k - 6359) % 16000, by omega, by omega, by omega⟩
    rw [mn_v h0 hw_ hx_]
    have := v1.1 _ a b
    split <;> omega
  · rw [o17 357 (by omega) (by omega), o17 358 (by omega) (by omega)]
    have := v1.2
    omega
  · rw [o _ (by omega) (by omega) (by omega)]; exact v2 k a b
  · rw [mn_v h0 ⟨a, b⟩ ⟨c, e⟩] at f
    by_cases q : x = 1000 * r 0
    · by_cases q2 : i = 1
      · have q3 := hid q2
        refine ⟨?_, ?_⟩
        · unfold m_place
          rw [mn_0]; omega
        · unfold m_time m_depth
          rw [show x / 1000 = r 0 by omega, if_pos (by omega), mn_d h0 (by omega), if_pos rfl]
          omega
      · rw [if_pos q, show i = 0 by omega, Int.add_zero] at f
        exact (v3 w x a b c e f).node hGV h0
    · rw [if_neg q] at f
      exact (v3 w x a b c e f).node hGV h0
  · rw [o17 _ (by omega) (by omega)] at e
    rw [o _ (by omega) (by omega) (by omega)]
    exact (v4 w k a b c e).node hGV h0
  · unfold m_node
    exact CAN_fu (CAN_fu (CAN_fu (CAN_fu (CAN_fu hC (by omega)) (by omega)) (by omega)) (by omega)) (by omega)
theorem VS.edge {r : Int → Int} {a b z x : Int} (hG : GV r) (h1 : r 1 < 10) (hv : VS r x) : VS (m_edge r a b z) x := by
  have b1 := hG.1.2.1
  obtain ⟨p1, p2⟩ := hv
  have p16 := m_place_rg hG.1 p1
  have e0 : m_edge r a b z 0 = r 0 := me_o (by omega) (by omega) (by omega) (by omega)
  have hpl : m_place (m_edge r a b z) (x / 1000) := by
    unfold m_place at p1 ⊢
    rw [e0, me_1]; omega
  have b0 := hG.1.1
  have ed : m_depth (m_edge r a b z) (x / 1000) = m_depth r (x / 1000) := by
    unfold m_place at p1
    unfold m_depth
    by_cases q : x / 1000 < 6
    · rw [if_pos q, if_pos q, me_o (by omega) (by omega) (by omega) (by omega)]
    · have g := hG.1.ed (x / 1000 - 6) (by omega) (by omega)
      have e2 : r (17 + (x / 1000 - 6)) = r (17 + x / 1000 - 6) := by congr 1; omega
      rw [e2] at g
      rw [if_neg q, if_neg q, me_o (i := 17 + x / 1000 - 6) (by omega) (by omega) (by omega) (by omega), me_o (by omega) (by omega) (by omega) (by omega)]
  refine ⟨hpl, ?_⟩
  unfold m_time at p2 ⊢
  rw [ed]; exact p2
theorem RWI.edge {r : Int → Int} {N x y z : Int} (h : RWI r N) (h1 : r 1 < 10) (hx : 0 ≤ x ∧ x < r 0) (hy : 0 ≤ y ∧ y < r 0) (hz : 0 ≤ z ∧ z ≤ 1) (hm : m_may r x y z) : RWI (m_edge r x y z) N := by
  obtain ⟨⟨hGV, hNC, hTL⟩, ⟨l1, l2, l3, l4⟩, ⟨m1, m2, m3, m4⟩, ⟨w1, w2, w3⟩, ⟨v1, v2, v3, v4⟩, hC⟩ := h
  obtain ⟨hG, g2, g3⟩ := id hGV
  have b0 := hG.1
  have b1 := hG.2.1
  have b10 : 0 ≤ r 1 ∧ r 1 < 10 := by omega
  obtain ⟨⟨⟨-, c1⟩, c2⟩, c3⟩ := hm
  have hzd : z = 1 → r (5 + x) = r (5 + y) := fun q => by have := (c2 q).1; omega
  have o : ∀ j, (¬ j = 1 ∧ j < 17) ∨ 47 ≤ j → m_edge r x y z j = r j := fun j _ => me_o (by omega) (by omega) (by omega) (by omega)
  have cs := fun (e : Int) (a : 0 ≤ e) (b : e < 10) => me_s (x := x) (y := y) (z := z) b10 (e := e) ⟨a, b⟩
  refine ⟨⟨⟨⟨?_, ?_, fun j a b => ?_, fun j a b => ?_⟩, fun j a b => ?_, fun j a b => ?_⟩, fun n a b c => ?_, fun j a b => ?_⟩, ⟨fun j a b => ?_, ?_, ?_, fun j a b c => ?_⟩, ⟨fun l a b => by rw [o _ (by omega)]; exact m1 l a b, fun k a b => by rw [o _ (by omega)]; exact m2 k a b, fun w k a b c e => ?_, fun w k i a b c e f g => ?_⟩, ⟨fun w a b => by rw [o _ (by omega)]; exact w1 w a b, fun i a b => by rw [o _ (by omega)]; exact w2 i a b, fun i a b => by rw [o _ (by omega)]; exact w3 i a b⟩, ⟨v1.row (fun i _ _ => o i (by omega)), fun k a b => by rw [o _ (by omega)]; exact v2 k a b, fun w i a b c e f => ?_, fun w k a b c e => ?_⟩, ?_⟩
  · rw [o 0 (by omega)]; exact b0
  · rw [me_1]; omega
  · rw [o _ (by omega)]; exact hG.2.2.1 j a b
  · obtain ⟨k1, k2, k3⟩ := cs j a b
    have g := hG.2.2.2 j a b
    rw [k1, k2, k3]
    by_cases q : j = r 1
    · rw [q, fu_s, fu_s, fu_s]; omega
    · rw [fu_n q, fu_n q, fu_n q]; exact g
  · rw [me_1] at b
    obtain ⟨k1, k2, k3⟩ := cs j a (by omega)
    rw [k1, k2, k3, o 0 (by omega)]
    by_cases q : j = r 1
    · rw [q, fu_s, fu_s, fu_s, o _ (by omega), o _ (by omega)]
      exact ⟨by omega, by omega, fun q2 => by have := c2 q2; omega⟩
    · have g := hG.ed j a (by omega)
      rw [fu_n q, fu_n q, fu_n q, o (5 + r (27 + j)) (by omega), o (5 + r (17 + j)) (by omega)]
      exact g2 j a (by omega)
  · rw [o 0 (by omega)] at a
    rw [o _ (by omega)]; exact g3 j a b
  · rw [o 0 (by omega)] at b
    have hE : GE r (r 0) (r 1) (fun j => r (5 + j)) (fun e => r (17 + e)) (fun e => r (27 + e)) (fun e => m_kind r e) := ⟨⟨rfl, rfl⟩, fun _ _ _ => rfl, fun _ _ _ => ⟨rfl, rfl, rfl⟩⟩
    refine allow_no hGV hE hNC hx hy hz hzd c3 ⟨a, b⟩ ?_
    unfold CPr at c
    rw [me_1] at c
    refine CP_cong (fun e e1 e2 => ?_) (by show r (5 + n) = m_edge r x y z (5 + n); rw [o _ (by omega)]) c
    obtain ⟨k1, k2, k3⟩ := cs e e1 (by omega)
    refine ⟨k1.symm, k2.symm, (me_k (fd := fun j => r (5 + j)) hG b10 (fun _ _ _ => rfl) (by omega) (by omega) hz hzd ⟨e1, by omega⟩).symm, ?_⟩
    show r (5 + m_edge r x y z (27 + e)) = m_edge r x y z (5 + m_edge r x y z (27 + e))
    have g := hG.ed e e1 (by omega)
    rw [k2]
    by_cases q : e = r 1
    · rw [q, fu_s, o _ (by omega)]
    · rw [fu_n q, o (5 + r (27 + e)) (by omega)]
  · rw [me_1] at a
    obtain ⟨k1, k2, k3⟩ := cs j (by omega) b
    rw [k1, k2, k3, fu_n (by omega), fu_n (by omega), fu_n (by omega)]
    exact hTL j (by omega) b
  · rw [o _ (by omega)]; exact l1 j a b
  · unfold VN at l2 ⊢
    rw [o 3 (by omega), o 4 (by omega)]; exact l2
  · rw [o 2 (by omega)]; exact l3
  · rw [o 0 (by omega)] at b
    rw [o _ (by omega)] at c ⊢
    exact l4 j a b c
  · rw [me_1] at c
    rw [o _ (by omega)]; exact m3 w k a b (by omega) e
  · rw [me_1] at e
    rw [o _ (by omega)] at g
    have zk := m1 (10 * w + k) (by omega) (by omega)
    by_cases q : k = r 1
    · have := m3 w k a b (by omega) (by omega)
      omega
    · rw [o _ (by omega)]
      exact (m4 w k i a b c (by omega) f g).edge hGV h1
  · rw [o _ (by omega)] at f
    exact (v3 w i a b c e f).edge hGV h1
  · rw [o _ (by omega)] at e
    rw [o _ (by omega)]
    exact (v4 w k a b c e).edge hGV h1
  · unfold m_edge
    exact CAN_fu (CAN_fu (CAN_fu (CAN_fu hC (by omega)) (by omega)) (by omega)) (by omega)

