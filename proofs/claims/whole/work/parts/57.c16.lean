theorem kpo_top {n m_ : Int → Nat} {w u : Int} {a b : Nat} (h : (n 0 ≤ 32002 ∧ n 1 ≤ 32002) ∧ m_ 0 ≤ 16384 ∧ m_ 1 ≤ 16384) (ha : a ≤ 32002) (hb : b ≤ 16384) : kpo (fN n w a) (fN m_ u b) ≤ 96772 ∧ kpo (fN n w a) m_ ≤ 96772 ∧ kpo n m_ ≤ 96772 := by
  have q : ∀ (f : Int → Nat) (i j : Int) (v c : Nat), f j ≤ c → v ≤ c → fN f i v j ≤ c := fun f i j v c h1 h2 => by unfold fN; split <;> omega
  have q1 := q n w 0 a 32002 h.1.1 ha
  have q2 := q n w 1 a 32002 h.1.2 ha
  have q3 := q m_ u 0 b 16384 h.2.1 hb
  have q4 := q m_ u 1 b 16384 h.2.2 hb
  unfold kpo
  omega
set_option maxRecDepth 100000 in
set_option maxHeartbeats 4000000 in
theorem c_X2_update {X : Hp} {B st kap : Nat} {r : Int → Int} (hST : ST X B st kap r) {w p t c N : Int} (hG : GI r) (hA : AS r) (hI : RI r N) (hN : N < 6144) (h2 : r 2 = 1) (hw : 0 ≤ w ∧ w ≤ 1) (hp : 0 ≤ p ∧ p < 16) (ht : 0 ≤ t ∧ t ≤ 999) (hc : (-1 ≤ c ∧ c ≤ 1) ∧ ¬ c = 0) : Cv yX2_update cX2_update 4 none 5 120 [.ref st, vi w, vi (1000 * p + t), vi c] X (96772 - kap) (6 * (96772 - kap)) (fun rv X' k n => rv = none ∧ ∃ kap', ST X' B st kap' (m_upd r w p t c) ∧ FB (B + 100) (B + 300) X X' ∧ kap ≤ kap' ∧ k ≤ kap' - kap ∧ n ≤ 6 * (kap' - kap)) := by
  refine Cv.of (by decide +kernel) [some (.ref st), some (vi w), some (vi (1000 * p + t)), some (vi c)] rfl (Nat.le_of_ble_eq_true rfl) (fun φ hF hR => ?_)
  obtain ⟨g, ml, ws, va, qa, oe, dc, v, q, n, m_, z, fi, hS, hV, hQ, hk⟩ := hST
  obtain ⟨fv, fq, fo, fd, h1, -, -, -, h5, h6, -, -, h9, -, -⟩ := id hS
  obtain ⟨o1, hob1⟩ := (hV w hw.1 hw.2).obj
  obtain ⟨o2, hob2⟩ := (hQ (1 - w) (by omega) (by omega)).obj
  have hz1 : (0 ≤ r (357 + w) ∧ r (357 + w) ≤ N) ∧ 0 ≤ r (357 + (1 - w)) ∧ r (357 + (1 - w)) ≤ N := by
    rcases (show w = 0 ∨ w = 1 by omega) with rfl | rfl
    · exact ⟨hI.2.1, hI.2.2⟩
    · exact ⟨hI.2.2, hI.2.1⟩
  have hfr0 := hI.1 (6359 + 16000 * w + (1000 * p + t)) (by omega) (by omega)
  have hfr : -1000000 ≤ (fun x => r (6359 + 16000 * w + x)) (1000 * p + t) ∧ (fun x => r (6359 + 16000 * w + x)) (1000 * p + t) ≤ 1000000 := by show -1000000 ≤ r (6359 + 16000 * w + (1000 * p + t)) ∧ r (6359 + 16000 * w + (1000 * p + t)) ≤ 1000000; omega
  obtain ⟨nv, hnv⟩ : ∃ nv, nv = vc (n w) (z w) (fun x => r (6359 + 16000 * w + x)) (1000 * p + t) := ⟨_, rfl⟩
  have hv1 := vc_top (x := 1000 * p + t) (hV w hw.1 hw.2)
  have hv2 := vc_ge (n w) (z w) (fun x => r (6359 + 16000 * w + x)) (1000 * p + t)
  rw [← hnv] at hv1 hv2
  obtain ⟨mq, hmq⟩ : ∃ mq, mq = qn (m_ (1 - w)) (fi (1 - w)) (r (357 + (1 - w))) := ⟨_, rfl⟩
  have hq1 := qn_top (hQ (1 - w) (by omega) (by omega)) (by omega)
  have hq2 := qn_ge (m_ (1 - w)) (fi (1 - w)) (r (357 + (1 - w)))
  rw [← hmq] at hq1 hq2
  have kt := kpo_top (w := w) (u := 1 - w) (ST.top hV hQ) hv1 hq1
  have k1 := kpo_v (n := n) (m_ := m_) hw (n' := nv)
  have k2 := kpo_q (n := fN n w nv) (m_ := m_) (w := 1 - w) (by omega) (n' := mq)
  refine j_aload_n hF dX2_update_0 rfl (j_get hF h1 fl_RX2_34 dX2_update_1 rfl (j_iload_n hF dX2_update_4 rfl (j_aald hF (by decide) h5 dX2_update_5 (by omega) (h9 w hw.1 hw.2).1 (j_iload_n hF dX2_update_6 rfl (j_iload_n hF dX2_update_7 rfl ?_)))))
  refine j_callV hF (c_X4_change (hV w hw.1 hw.2) (n' := nv) hnv (by omega) hc hfr) ms_X4_change mv_X4_change lk_RX2_67 dX2_update_8 hob1 rfl rfl rfl (by simp [Value.category]) ⟨⟨(Nat.le_of_ble_eq_true rfl), (Nat.le_of_ble_eq_true rfl)⟩, by omega, by omega⟩ (fun v1 X1 hp1 hE1 => ?_)
  obtain ⟨rfl, hVn, hF1⟩ := hp1
  have h1 := hF1 _ _ _ h1 (by omega)
  have h6 := hF1 _ _ _ h6 (by omega)
  have hS := hS.keep hF1 (by omega)
  have hV := hV.set hw hVn hF1 (mu_v (c := c) hw hp ht (by omega)) (mu_vo (c := c) hw hp ht (by omega))
  have hQ := hQ.keep hF1 (by omega)
  have hob2 := hF1 _ _ _ hob2 (by omega)
  refine j_aload_n hF dX2_update_11 rfl (j_get hF h1 fl_RX2_40 dX2_update_12 rfl (j_iconst hF dX2_update_15 (j_iload_n hF dX2_update_16 rfl (j_isub hF dX2_update_17 (j_aald hF (by decide) h6 dX2_update_18 (by omega) (h9 (1 - w) (by omega) (by omega)).2 ?_)))))
  refine j_iload_n hF dX2_update_19 rfl (j_iload_n hF dX2_update_20 rfl (j_callV hF (c_X3_add (hQ (1 - w) (by omega) (by omega)) (n' := mq) hmq (by omega) (by omega) hc.1) ms_X3_add mv_X3_add lk_RX2_90 dX2_update_21 hob2 rfl rfl rfl (by simp [Value.category]) ⟨⟨(Nat.le_of_ble_eq_true rfl), (Nat.le_of_ble_eq_true rfl)⟩, by omega, by omega⟩ (fun v2 X2 hp2 hE2 => ?_)))
  obtain ⟨rfl, hQn, hF2⟩ := hp2
  have hS := (hS.keep hF2 (by omega)).row hG hA (mu_row (c := c) h2 hw hp ht (by omega))
  have hV := hV.keep hF2 (by omega)
  obtain ⟨u1, u2, u3, u4⟩ := mu_q (r := r) (c := c) hw hp ht (by omega)
  have hQ := hQ.set (w := 1 - w) (by omega) hQn hF2 u1 u2 (by rw [show 1 - (1 - w) = w by omega]; exact u3) (by rw [show 1 - (1 - w) = w by omega]; exact fun i i1 i2 => u4 i i1 (by omega))
  refine j_vretv hF hR dX2_update_24 (by omega) (by omega) ?_
  refine ⟨rfl, _, ⟨g, ml, ws, va, qa, oe, dc, v, q, _, _, _, _, hS, hV, hQ, rfl⟩, (hF1.mono (by omega) (by omega)).trans (hF2.mono (by omega) (by omega)), by omega, by omega, by omega⟩

