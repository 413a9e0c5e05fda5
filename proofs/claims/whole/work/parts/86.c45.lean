theorem CAN_fu {r : Int → Int} {i v : Int} (h : CAN r) (hi : 0 ≤ i ∧ i < 54743) : CAN (fu r i v) := h.fu hi
theorem VDv.at {r : Int → Int} (h : VDv r) {w x : Int} (hw : 0 ≤ w ∧ w ≤ 1) (hx : 0 ≤ x ∧ x < 16000) (h0 : ¬ r (6359 + 16000 * w + x) = 0) : VS r x := h w x hw.1 hw.2 hx.1 hx.2 h0
theorem RWI.upd {r : Int → Int} {N w p t c : Int} (h : RWI r N) (hN : 0 ≤ N ∧ N < 8190) (hw : 0 ≤ w ∧ w ≤ 1) (hp : 0 ≤ p ∧ p < 16) (ht : 0 ≤ t ∧ t ≤ 999) (hc : c = 1 ∨ c = -1) (hv : VS r (1000 * p + t)) : RWI (m_upd r w p t c) (N + 1) := by
  have hG := h.gi
  obtain ⟨v1, v2, v3, v4⟩ := h.2.2.2.2.1
  have hCn := h.2.2.2.2.2
  have hz := v1.q (w := 1 - w) (by omega)
  have hz2 := v1.q (w := w) hw
  have hsg : SG r (m_upd r w p t c) := SG.upd v1 hw hp ht
  have q1 := mu_v (c := c) hw hp ht (r := r) (by omega)
  have q2 := mu_vo (c := c) hw hp ht (r := r) (by omega)
  obtain ⟨u1, u2, u3, u4⟩ := mu_q (c := c) hw hp ht (r := r) (by omega)
  refine h.vq (by omega) (fun i i1 i2 i3 => m_upd_lo v1 hw hp ht i3 (by omega)) (Or.inr (by unfold m_upd; exact fu_s)) ⟨v1.up (by omega) hw hp ht hc, fun i i1 i2 => ?_, fun u x u1_ u2_ x1 x2 x3 => ?_, fun u i u1_ u2_ i1 i2 => ?_⟩ ?_
  · have z := v2 i i1 i2
    have e1 : (fu r (6359 + 1000 * (16 * w + p) + t) (r (6359 + 1000 * (16 * w + p) + t) + c)) (357 + (1 - w)) = r (357 + (1 - w)) := fu_n (by omega)
    unfold m_upd
    rw [fu_n (by omega), fu_n (by omega), e1]
    by_cases q : 38359 + i = 38359 + 8192 * (1 - w) + r (357 + (1 - w))
    · rw [q, fu_s]; split <;> omega
    · rw [fu_n q, fu_n (by omega)]; exact z
  · refine hsg.vs hG ?_
    by_cases q : u = w
    · subst q
      by_cases q3 : x = 1000 * p + t
      · rw [q3]; exact hv
      · rw [q1 x x1 x2, fu_n q3] at x3
        exact v3 u x u1_ u2_ x1 x2 x3
    · obtain rfl : u = 1 - w := by omega
      rw [q2 x x1 x2] at x3
      exact v3 (1 - w) x u1_ u2_ x1 x2 x3
  · refine hsg.vs hG ?_
    by_cases q : u = w
    · subst q
      rw [u3] at i2
      rw [u4 i i1 (by omega)]; exact v4 u i u1_ u2_ i1 i2
    · obtain rfl : u = 1 - w := by omega
      rw [u1] at i2
      rw [u2 i i1 i2]
      by_cases q3 : i = r (357 + (1 - w))
      · rw [q3, fu_s, show (2 * (1000 * p + t) + (if 0 < c then (1 : Int) else 0)) / 2 = 1000 * p + t by split <;> omega]
        exact hv
      · rw [fu_n q3]; exact v4 (1 - w) i u1_ u2_ i1 (by omega)
  · have e1 : (fu r (6359 + 1000 * (16 * w + p) + t) (r (6359 + 1000 * (16 * w + p) + t) + c)) (357 + (1 - w)) = r (357 + (1 - w)) := fu_n (by omega)
    unfold m_upd
    rw [e1]
    exact CAN_fu (CAN_fu (CAN_fu (CAN_fu hCn (by omega)) (by omega)) (by omega)) (by omega)
theorem RWI.put {r : Int → Int} {N w e t : Int} (h : RWI r N) (hw : 0 ≤ w ∧ w ≤ 1) (he : 0 ≤ e ∧ e < r 1) (ht : 0 ≤ t ∧ t ≤ 999) (hz : r (47 + (10 * w + e)) < 12) (hv : VS r (1000 * (6 + e) + t)) : RWI (m_put r w e t) N := by
  have hG := h.gi
  have b1 := hG.2.1
  have he10 : 0 ≤ e ∧ e < 10 := by omega
  obtain ⟨m1, m2, m3, m4⟩ := h.2.2.1
  have z := m1 (10 * w + e) (by omega) (by omega)
  have hzz : 0 ≤ r (47 + (10 * w + e)) ∧ r (47 + (10 * w + e)) < 12 := by omega
  have eo : ∀ i, 0 ≤ i → i < 47 ∨ 307 ≤ i → m_put r w e t i = r i := fun i _ hi => mp_o hw he10 hzz hi
  have hsg : SG r (m_put r w e t) := fun i i1 i2 _ _ => eo i i1 (by omega)
  have ez : ∀ j, 0 ≤ j → j < 20 → m_put r w e t (47 + j) = if j = 10 * w + e then r (47 + (10 * w + e)) + 1 else r (47 + j) := fun j a b => mp_z hw he10 hzz ⟨a, b⟩
  refine h.ml eo ⟨fun l a b => ?_, fun i a b => ?_, fun u k a b c d => ?_, fun u k i a b c d f g => ?_⟩ ?_
  · rw [ez l a b]
    have := m1 l a b
    split <;> omega
  · rw [mp_t hw he10 hzz ⟨a, b⟩]
    have := m2 i a b
    split <;> omega
  · rw [eo 1 (by omega) (by omega)] at c
    rw [ez _ (by omega) (by omega), if_neg (by omega)]; exact m3 u k a b c d
  · rw [eo 1 (by omega) (by omega)] at d
    have zk := m1 (10 * u + k) (by omega) (by omega)
    rw [ez _ (by omega) (by omega)] at g
    refine hsg.vs hG ?_
    have gi : i < 12 := by split at g <;> omega
    rw [show 67 + 12 * (10 * u + k) + i = 67 + (12 * (10 * u + k) + i) by omega, mp_t hw he10 hzz (by omega)]
    by_cases q : 12 * (10 * u + k) + i = 12 * (10 * w + e) + r (47 + (10 * w + e))
    · rw [if_pos q, show k = e by omega]; exact hv
    · rw [if_neg q, show 67 + (12 * (10 * u + k) + i) = 67 + 12 * (10 * u + k) + i by omega]
      refine m4 u k i a b c d f ?_
      by_cases q2 : 10 * u + k = 10 * w + e
      · rw [if_pos q2] at g
        rw [q2] at q ⊢
        omega
      · rw [if_neg q2] at g; exact g
  · unfold m_put
    exact CAN_fu (CAN_fu h.2.2.2.2.2 (by omega)) (by omega)
theorem RWI.pa {r : Int → Int} {N w o tg t : Int} (h : RWI r N) (hN : 0 ≤ N ∧ N + 10 < 8190) (hw : 0 ≤ w ∧ w ≤ 1) (htg : 0 ≤ tg ∧ tg ≤ 1) (ht : 0 ≤ t ∧ t ≤ 999) (hf : ∀ e, 0 ≤ e → e < r 1 → hb o e → r (47 + (10 * tg + e)) < 12) (hv : ∀ e, 0 ≤ e → e < r 1 → hb o e → VS r (1000 * (6 + e) + t)) : ∀ n : Nat, (n : Int) ≤ r 1 → RWI (m_pa w o tg t n r) (N + n)
  | 0, _ => by show RWI r (N + 0); rw [Int.add_zero]; exact h
  | n + 1, hn => by
    have b1 := h.gi.2.1
    have ih := RWI.pa h hN hw htg ht hf hv n (by omega)
    obtain ⟨i1, i2, i3, i4⟩ := m_pa_inv (w := w) (o := o) (tg := tg) (t := t) (E := r 1) h.2.2.2.2.1.1 h.2.2.1.1 (by omega) hw htg ht b1.2 hf n (by omega)
    have hsg : SG r (m_pa w o tg t n r) := fun i _ _ _ _ => i2 i (by omega) (by omega)
    have e1 : m_pa w o tg t n r 1 = r 1 := i2 1 (by omega) (by omega)
    simp only [m_pa]
    by_cases q : o / pw n % 2 = 1
    · rw [if_pos q]
      have hb1 : hb o n := q
      have hvs := hsg.vs h.gi (hv n (by omega) (by omega) hb1)
      have h3 := i3 n (by omega) (by omega)
      have h4 := hf n (by omega) (by omega) hb1
      have hz := i4 (10 * tg + n) (by omega) (by omega)
      have hp := ih.put htg (e := n) (t := t) (by omega) ht (by omega) hvs
      have hsg2 : SG (m_pa w o tg t n r) (m_put (m_pa w o tg t n r) tg n t) := fun i _ i2_ _ _ => mp_o htg (by omega) (by omega) (by omega)
      have := hp.upd (p := 6 + n) (t := t) (c := 1) (by omega) hw (by omega) ht (Or.inl rfl) (hsg2.vs ih.gi hvs)
      rw [show N + ((n + 1 : Nat) : Int) = N + n + 1 by omega]
      exact this
    · rw [if_neg q]; exact ih.mono (by omega)
theorem RWI.take {r : Int → Int} {N w e : Int} (h : RWI r N) (hw : 0 ≤ w ∧ w ≤ 1) (he : 0 ≤ e ∧ e < r 1) (hz : 1 ≤ r (47 + (10 * w + e))) : RWI (m_take r (10 * w + e)) N := by
  have hG := h.gi
  have b1 := hG.2.1
  obtain ⟨m1, m2, m3, m4⟩ := h.2.2.1
  have z := m1 (10 * w + e) (by omega) (by omega)
  have hl : 0 ≤ 10 * w + e ∧ 10 * w + e < 20 := by omega
  have eo : ∀ i, 0 ≤ i → i < 47 ∨ 307 ≤ i → m_take r (10 * w + e) i = r i := fun i _ hi => m_take_n z.2 (by omega) (by omega)
  have hsg : SG r (m_take r (10 * w + e)) := fun i i1 i2 _ _ => eo i i1 (by omega)
  have ec : ∀ l, 0 ≤ l → l < 20 → m_take r (10 * w + e) (47 + l) = if l = 10 * w + e then r (47 + (10 * w + e)) - 1 else r (47 + l) := fun l a b => by
    by_cases q : l = 10 * w + e
    · rw [if_pos q, q, m_take_c hl]
    · rw [if_neg q, m_take_n z.2 (by omega) (by omega)]
  have et : ∀ j, 0 ≤ j → j < 240 → m_take r (10 * w + e) (67 + j) = if 12 * (10 * w + e) ≤ j ∧ j < 12 * (10 * w + e) + (r (47 + (10 * w + e)) - 1) then r (67 + (j + 1)) else r (67 + j) := fun j a b => by
    unfold m_take m_tk
    by_cases q : 12 * (10 * w + e) ≤ j ∧ j < 12 * (10 * w + e) + (r (47 + (10 * w + e)) - 1)
    · rw [if_pos q, if_pos (by omega), fu_n (by omega)]; congr 1; omega
    · rw [if_neg q, if_neg (by omega), fu_n (by omega)]
  refine h.ml eo ⟨h.2.2.1.1.take hl hz, fun i a b => ?_, fun u k a b c d => ?_, fun u k i a b c d f g => ?_⟩ ?_
  · rw [et i a b]
    split
    · exact m2 (i + 1) (by omega) (by omega)
    · exact m2 i a b
  · rw [eo 1 (by omega) (by omega)] at c
    rw [ec _ (by omega) (by omega), if_neg (by omega)]; exact m3 u k a b c d
  · rw [eo 1 (by omega) (by omega)] at d
    have zk := m1 (10 * u + k) (by omega) (by omega)
    rw [ec _ (by omega) (by omega)] at g
    refine hsg.vs hG ?_
    have gi : i < 12 := by split at g <;> omega
    rw [show 67 + 12 * (10 * u + k) + i = 67 + (12 * (10 * u + k) + i) by omega, et _ (by omega) (by omega)]
    by_cases q2 : 10 * u + k = 10 * w + e
    · rw [if_pos q2] at g
      rw [if_pos (by omega), show 67 + (12 * (10 * u + k) + i + 1) = 67 + 12 * (10 * u + k) + (i + 1) by omega]
      exact m4 u k (i + 1) a b c d (by omega) (by rw [q2]; omega)
    · rw [if_neg q2] at g
      rw [if_neg (by omega), show 67 + (12 * (10 * u + k) + i) = 67 + 12 * (10 * u + k) + i by omega]
      exact m4 u k i a b c d f g
  · intro j hj
    unfold m_take m_tk
    rw [if_neg (by omega), fu_n (by omega)]
    exact h.2.2.2.2.2 j hj
theorem RWI.rq {r : Int → Int} {N w nd t : Int} (h : RWI r N) (hw : 0 ≤ w ∧ w ≤ 1) (hn : 0 ≤ nd ∧ nd < 6) (ht : 0 ≤ t ∧ t ≤ 999) (hz : r (307 + w) < 12) : RWI (m_rq1 r w nd t) N := by
  obtain ⟨w1, w2, w3⟩ := h.2.2.2.1
  have z := w1 w hw.1 (by omega)
  have hzz : 0 ≤ r (307 + w) ∧ r (307 + w) < 12 := by omega
  refine h.ws (fun i _ hi => rq_o hw hzz hi) ⟨fun u a b => ?_, fun x a b => ?_, fun x a b => ?_⟩ ?_
  · rw [rq_z hw hzz ⟨a, by omega⟩]
    have := w1 u a b
    split <;> omega
  · rw [(rq_c hw hzz ⟨a, b⟩).2]
    have := w2 x a b
    split <;> omega
  · rw [(rq_c hw hzz ⟨a, b⟩).1]
    have := w3 x a b
    split <;> omega
  · unfold m_rq1 m_rq
    exact CAN_fu (CAN_fu (CAN_fu h.2.2.2.2.2 (by omega)) (by omega)) (by omega)
theorem RWI.out {r : Int → Int} {N w nd t : Int} (h : RWI r N) (hw : 0 ≤ w ∧ w ≤ 1) (hf : FX r w nd t (fix r w nd t)) : RWI (m_out r w nd t) N := by
  obtain ⟨w1, w2, w3⟩ := h.2.2.2.1
  have z := w1 w hw.1 (by omega)
  have f1 := hf.1
  refine h.ws (fun i _ hi => m_out_n hw w1 hf hi) ⟨fun u a b => ?_, fun x a b => ?_, fun x a b => ?_⟩ ?_
  · rw [out_z hw w1 hf ⟨a, by omega⟩]
    have := w1 u a b
    split
    · omega
    · exact this
  · rw [(out_c hw w1 hf ⟨a, b⟩).2]
    split
    · exact w2 (x + 1) (by omega) (by omega)
    · exact w2 x a b
  · rw [(out_c hw w1 hf ⟨a, b⟩).1]
    split
    · exact w3 (x + 1) (by omega) (by omega)
    · exact w3 x a b
  · intro j hj
    rw [m_out_n hw w1 hf (by omega)]
    exact h.2.2.2.2.2 j hj
theorem RWI.vio {r : Int → Int} {N v : Int} (h : RWI r N) (hv : 0 ≤ v ∧ v ≤ 1) : RWI (fu r 4 (r 4 + v)) (N + 1) := by
  obtain ⟨l1, l2, l3, l4⟩ := h.2.1
  have b0 := h.gi.1
  refine h.lo (by omega) (fun i _ hi => fu_n (by omega)) ⟨fun n a b => by rw [fu_n (by omega)]; exact l1 n a b, ?_, by rw [fu_n (by omega)]; exact l3, fun n a b c => ?_⟩ (CAN_fu h.2.2.2.2.2 (by omega))
  · unfold VN at l2 ⊢
    rw [fu_n (by omega), fu_s]; omega
  · rw [fu_n (by omega)] at b
    rw [fu_n (by omega)] at c ⊢
    exact l4 n a b c
theorem RWI.del0 {r : Int → Int} {N w nd t : Int} (h : RWI r N) (hw : 0 ≤ w ∧ w ≤ 1) (hn : 0 ≤ nd ∧ nd < 6) (ht : 0 ≤ t ∧ t ≤ 999) (hf : FX r w nd t (fix r w nd t)) : RWI (m_del0 r w nd t) (N + 1) := by
  have h1 := h.out hw hf
  obtain ⟨l1, l2, l3, l4⟩ := h1.2.1
  have b0 := h1.gi.1
  unfold m_del0
  refine h1.lo (by omega) (fun i _ hi => by rw [fu_n (by omega), fu_n (by omega)]) ⟨fun n a b => by rw [fu_n (by omega), fu_n (by omega)]; exact l1 n a b, ?_, by rw [fu_n (by omega), fu_n (by omega)]; exact l3, fun n a b c => ?_⟩ (CAN_fu (CAN_fu h1.2.2.2.2.2 (by omega)) (by omega))
  · unfold VN at l2 ⊢
    rw [fu_n (by omega), fu_s, fu_n (by omega), fu_n (by omega)]; omega
  · rw [fu_n (by omega), fu_n (by omega)] at b
    rw [fu_n (by omega), fu_n (by omega)] at c ⊢
    exact l4 n a b c
theorem RWI.ep {r : Int → Int} {N n v : Int} (h : RWI r N) (hn : 0 ≤ n ∧ n < 6) (hv : -2 ≤ v ∧ v ≤ 9) (hd : 0 ≤ v → r (5 + n) = 0) : RWI (fu r (11 + n) v) N := by
  obtain ⟨l1, l2, l3, l4⟩ := h.2.1
  have b0 := h.gi.1
  refine h.lo (by omega) (fun i _ hi => fu_n (by omega)) ⟨fun m a b => ?_, ?_, by rw [fu_n (by omega)]; exact l3, fun m a b c => ?_⟩ (CAN_fu h.2.2.2.2.2 (by omega))
  · by_cases q : m = n
    · rw [q, fu_s]; exact hv
    · rw [fu_n (by omega)]; exact l1 m a b
  · unfold VN at l2 ⊢
    rw [fu_n (by omega), fu_n (by omega)]; exact l2
  · rw [fu_n (by omega)] at b
    rw [fu_n (by omega)]
    by_cases q : m = n
    · rw [q, fu_s] at c; rw [q]; exact hd c
    · rw [fu_n (by omega)] at c; exact l4 m a b c

