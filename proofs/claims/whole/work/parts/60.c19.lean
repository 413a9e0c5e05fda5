theorem ST.le {X : Hp} {B st kap : Nat} {r : Int → Int} (hST : ST X B st kap r) : kap ≤ 96772 := by
  obtain ⟨g, ml, ws, va, qa, oe, dc, v, q, n, m_, z, fi, hS, hV, hQ, hk⟩ := hST
  rw [hk]
  exact (kpo_top (w := 0) (u := 0) (a := 0) (b := 0) (ST.top hV hQ) (by omega) (by omega)).2.2
set_option maxRecDepth 100000 in
set_option maxHeartbeats 4000000 in
theorem c_X2_putMessage {X : Hp} {B st kap : Nat} {r : Int → Int} (hST : ST X B st kap r) {w e tg t N : Int} (hG : GI r) (hA : AS r) (hI : RI r N) (hN : N < 6144) (h2 : r 2 = 1) (hw : 0 ≤ w ∧ w ≤ 1) (he : 0 ≤ e ∧ e < 10) (htg : 0 ≤ tg ∧ tg ≤ 1) (ht : 0 ≤ t ∧ t ≤ 999) (hm : 0 ≤ r (47 + (10 * tg + e)) ∧ r (47 + (10 * tg + e)) < 12) : Cv yX2_putMessage cX2_putMessage 5 none 6 143 [.ref st, vi w, vi e, vi tg, vi t] X (96772 - kap) (6 * (96772 - kap)) (fun rv X' k n => rv = none ∧ ∃ kap', ST X' B st kap' (m_upd (m_put r tg e t) w (6 + e) t 1) ∧ FB (B + 20) (B + 300) X X' ∧ kap ≤ kap' ∧ k ≤ kap' - kap ∧ n ≤ 6 * (kap' - kap)) := by
  refine Cv.of (by decide +kernel) [some (.ref st), some (vi w), some (vi e), some (vi tg), some (vi t)] rfl (Nat.le_of_ble_eq_true rfl) (fun φ hF hR => ?_)
  obtain ⟨g, ml, ws, va, qa, oe, dc, v, q, n, m_, z, fi, hS, hV, hQ, hk⟩ := hST
  obtain ⟨fv, fq, fo, fd, h1, -, ⟨mz, mt, fz, ft, hMP, m1, m2⟩, -⟩ := id hS
  have ez : fz (10 * tg + e) = r (47 + (10 * tg + e)) := m1 _ (by omega) (by omega)
  refine j_aload_n hF dX2_putMessage_0 rfl (j_get hF h1 fl_RX2_21 dX2_putMessage_1 rfl (j_iload_n hF dX2_putMessage_4 rfl (j_iload_n hF dX2_putMessage_5 rfl (j_iload hF dX2_putMessage_6 rfl (j_callV hF (c_X1_put hMP htg he ht (by rw [ez]; omega)) ms_X1_put mv_X1_put lk_RX2_83 dX2_putMessage_8 hMP.1 rfl rfl rfl (by simp [Value.category]) ⟨⟨(Nat.le_of_ble_eq_true rfl), (Nat.le_of_ble_eq_true rfl)⟩, by omega, by omega⟩ (fun v1 X1 hp1 hE1 => ?_))))))
  obtain ⟨rfl, hM1⟩ := hp1
  have hF1 : FB (B + 20) (B + 30) X X1 := hM1.2
  have h1 := hF1 _ _ _ h1 (by omega)
  have hMR : MR X1 (B + 20) ml (m_put r tg e t) := by
    refine ⟨_, _, _, _, hM1.1, fun j j1 j2 => ?_, fun j j1 j2 => ?_⟩
    · rw [mp_z htg he hm ⟨j1, j2⟩]
      by_cases q : j = 10 * tg + e
      · rw [if_pos q, q, fu_s, ez]
      · rw [if_neg q, fu_n q]; exact m1 j j1 j2
    · rw [mp_t htg he hm ⟨j1, j2⟩]
      by_cases q : j = 12 * (10 * tg + e) + r (47 + (10 * tg + e))
      · rw [if_pos q, q, ez, fu_s]
      · rw [if_neg q, ez, fu_n q]; exact m2 j j1 j2
  have hS := hS.mail hG hA hMR hF1 (fun i _ i2 => mp_o htg he hm i2)
  have hV := (hV.keep hF1 (by omega)).row (r' := m_put r tg e t) (fun i i1 => mp_o htg he hm (by omega))
  have hQ := (hQ.keep hF1 (by omega)).row (r' := m_put r tg e t) (fun i i1 _ => mp_o htg he hm (by omega))
  refine j_aload_n hF dX2_putMessage_11 rfl (j_iload_n hF dX2_putMessage_12 rfl (j_bipush hF dX2_putMessage_13 (by decide) (j_iload_n hF dX2_putMessage_15 rfl (j_iadd hF dX2_putMessage_16 (j_iload hF dX2_putMessage_17 rfl ?_)))))
  refine j_callSN hF (c_X7_stampOf) ms_X7_stampOf mt_X7_stampOf ln_RX2_63 dX2_putMessage_19 rfl rfl rfl (by simp [Value.category]) ⟨⟨(Nat.le_of_ble_eq_true rfl), (Nat.le_of_ble_eq_true rfl)⟩, by omega, by omega⟩ (fun v2 X2 hp2 hE2 => ?_)
  obtain ⟨rfl, he2⟩ := hp2; obtain rfl := he2.symm
  refine j_iconst hF dX2_putMessage_22 (j_callVv hF (c_X2_update (p := 6 + e) ⟨g, ml, ws, va, qa, oe, dc, v, q, n, m_, z, fi, hS, hV, hQ, hk⟩ (hG.row (fun i i1 i2 => mp_o htg he hm (by omega))) (hA.row (fun i i1 i2 => mp_o htg he hm (by omega))) (hI.row (fun i i1 i2 => mp_o htg he hm (by omega))) hN (by rw [mp_o htg he hm (by omega)]; exact h2) hw (by omega) ht (by omega)) ms_X2_update mv_X2_update lk_RX2_87 dX2_putMessage_23 h1 rfl rfl rfl (by simp [Value.category]) ⟨⟨(Nat.le_of_ble_eq_true rfl), (Nat.le_of_ble_eq_true rfl)⟩, by omega, by omega⟩ (fun v3 X3 k3 n3 hp3 hE3 => ?_))
  obtain ⟨rfl, kap', hST', hF2, hk1, hk2, hk3⟩ := hp3
  have hk4 := hST'.le
  refine j_vretv hF hR dX2_putMessage_26 (by omega) (by omega) ?_
  exact ⟨rfl, kap', hST', (hF1.mono (by omega) (by omega)).trans (hF2.mono (by omega) (by omega)), hk1, by omega, by omega⟩

