theorem SS.fo {X : Hp} {B st g ml ws va qa oe dc : Nat} {v q : Int → Nat} {r : Int → Int} (h : SS X B st g ml ws va qa oe dc v q r) : ∃ fd, X dc = some (B + 61, ia 0 60 fd) ∧ DR r fd := by
  obtain ⟨fv, fq, fo, fd, h1, hGR, hMR, hHR, h5, h6, h7, h8, h9, h10, h11⟩ := h
  exact ⟨fd, h8, h11⟩
theorem SS.o1 {X : Hp} {B st g ml ws va qa oe dc : Nat} {v q : Int → Nat} {r : Int → Int} (h : SS X B st g ml ws va qa oe dc v q r) : X st = some (B, ob 2 [vi (r 2), vi (r 3), vi (r 4), .ref g, .ref ml, .ref ws, .ref va, .ref qa, .ref oe, .ref dc]) := by
  obtain ⟨fv, fq, fo, fd, h1, hGR, hMR, hHR, h5, h6, h7, h8, h9, h10, h11⟩ := h
  exact h1
def NV (r r2 : Int → Int) (k : Int) : Int → Int := fun j => if j < 6359 + 16000 * k then r2 j else r j
def NQ (r r2 : Int → Int) (k : Int) : Int → Int := fun j => if (357 ≤ j ∧ j < 357 + k) ∨ (38359 ≤ j ∧ j < 38359 + 8192 * k) then r2 j else r j
theorem NV_lt {r r2 : Int → Int} {k j : Int} (h : j < 6359 + 16000 * k) : NV r r2 k j = r2 j := if_pos h
theorem NV_ge {r r2 : Int → Int} {k j : Int} (h : 6359 + 16000 * k ≤ j) : NV r r2 k j = r j := if_neg (by omega)
theorem NV_o {r r2 : Int → Int} {k x : Int} (hk : 0 ≤ k ∧ k ≤ 1) (hx : 0 ≤ x ∧ x < 16000) : NV r r2 (k + 1) (6359 + 16000 * (1 - k) + x) = NV r r2 k (6359 + 16000 * (1 - k) + x) := by
  rcases (show k = 0 ∨ k = 1 by omega) with rfl | rfl
  · rw [NV_ge (by omega), NV_ge (by omega)]
  · rw [NV_lt (by omega), NV_lt (by omega)]
theorem NQ_in {r r2 : Int → Int} {k j : Int} (h : (357 ≤ j ∧ j < 357 + k) ∨ (38359 ≤ j ∧ j < 38359 + 8192 * k)) : NQ r r2 k j = r2 j := if_pos h
theorem NQ_out {r r2 : Int → Int} {k j : Int} (h : ¬ ((357 ≤ j ∧ j < 357 + k) ∨ (38359 ≤ j ∧ j < 38359 + 8192 * k))) : NQ r r2 k j = r j := if_neg h
theorem mn_o {r : Int → Int} {d i j : Int} (h0 : 0 ≤ r 0 ∧ r 0 < 6) (h1 : ¬ j = 0) (h2 : ¬ (5 ≤ j ∧ j < 17)) (h3 : j < 6359 ∨ 38359 ≤ j) : m_node r d i j = r j := by
  unfold m_node; rw [fu_n h1, fu_n (by omega), fu_n (by omega), fu_n (by omega), fu_n (by omega)]
theorem mn_0 {r : Int → Int} {d i : Int} : m_node r d i 0 = r 0 + 1 := by unfold m_node; rw [fu_s]
theorem mn_d {r : Int → Int} {d i j : Int} (h0 : 0 ≤ r 0 ∧ r 0 < 6) (hj : 0 ≤ j ∧ j < 6) : m_node r d i (5 + j) = if j = r 0 then d else r (5 + j) := by
  unfold m_node; rw [fu_n (by omega), fu_n (by omega), fu_n (by omega), fu_n (by omega)]
  by_cases q : j = r 0
  · rw [if_pos q, q, fu_s]
  · rw [if_neg q, fu_n (by omega)]
theorem mn_e {r : Int → Int} {d i j : Int} (h0 : 0 ≤ r 0 ∧ r 0 < 6) (hj : 0 ≤ j ∧ j < 6) : m_node r d i (11 + j) = if j = r 0 then (if i = 1 then 0 else -1) else r (11 + j) := by
  unfold m_node; rw [fu_n (by omega), fu_n (by omega), fu_n (by omega)]
  by_cases q : j = r 0
  · rw [if_pos q, q, fu_s]
  · rw [if_neg q, fu_n (by omega), fu_n (by omega)]
theorem mn_v {r : Int → Int} {d i w x : Int} (h0 : 0 ≤ r 0 ∧ r 0 < 6) (hw : 0 ≤ w ∧ w ≤ 1) (hx : 0 ≤ x ∧ x < 16000) : m_node r d i (6359 + 16000 * w + x) = if x = 1000 * r 0 then r (6359 + 16000 * w + x) + i else r (6359 + 16000 * w + x) := by
  unfold m_node; rw [fu_n (by omega)]
  have e0 : (fu (fu (fu r (5 + r 0) d) (11 + r 0) (if i = 1 then 0 else -1)) (6359 + 1000 * (16 * 0 + r 0) + 0) (r (6359 + 1000 * (16 * 0 + r 0) + 0) + i)) = (fu (fu (fu r (5 + r 0) d) (11 + r 0) (if i = 1 then 0 else -1)) (6359 + 1000 * r 0) (r (6359 + 1000 * r 0) + i)) := by
    rw [show 6359 + 1000 * (16 * 0 + r 0) + 0 = 6359 + 1000 * r 0 by omega]
  rw [e0]
  rcases (show w = 0 ∨ w = 1 by omega) with rfl | rfl
  · rw [fu_n (by omega)]
    by_cases q : x = 1000 * r 0
    · rw [if_pos q, q, show 6359 + 16000 * 0 + 1000 * r 0 = 6359 + 1000 * r 0 by omega, fu_s]
    · rw [if_neg q, fu_n (by omega), fu_n (by omega), fu_n (by omega)]
  · by_cases q : x = 1000 * r 0
    · rw [if_pos q, q, show 6359 + 16000 * 1 + 1000 * r 0 = 6359 + 1000 * (16 * 1 + r 0) + 0 by omega, fu_s]
    · rw [if_neg q, fu_n (by omega), fu_n (by omega), fu_n (by omega), fu_n (by omega)]
set_option maxRecDepth 100000 in
set_option maxHeartbeats 4000000 in
theorem c_X2_recordDelivery {X : Hp} {B st kap : Nat} {r : Int → Int} (hST : ST X B st kap r) {nd t : Int} (hG : GI r) (hA : AS r) (hn : 0 ≤ nd ∧ nd < 6) (ht : 0 ≤ t ∧ t ≤ 999) : Ct yX2_recordDelivery cX2_recordDelivery 4 none 1 21 [.ref st, vi nd, vi t] X 0 0 (fun rv X' => rv = none ∧ ST X' B st kap (fu (fu r 3 (r 3 + 1)) (359 + 1000 * nd + t) 1) ∧ FB B (B + 100) X X') := by
  refine Ct.of (by decide +kernel) [some (.ref st), some (vi nd), some (vi t), none] rfl (Nat.le_of_ble_eq_true rfl) (fun φ hF hR => ?_)
  obtain ⟨g, ml, ws, va, qa, oe, dc, v, q, n, m_, z, fi, hS, hV, hQ, hk⟩ := hST
  obtain ⟨fd, hdc⟩ := hS.fo
  have h1 := hS.o1
  refine j_iload_n hF dX2_recordDelivery_0 rfl (j_bipush hF dX2_recordDelivery_1 (by decide) (j_imul hF dX2_recordDelivery_3 (j_iload_n hF dX2_recordDelivery_4 rfl (j_bipush hF dX2_recordDelivery_5 (by decide) (j_idiv hF dX2_recordDelivery_7 (by omega) ?_)))))
  refine j_iadd hF dX2_recordDelivery_8 ?_
  rw [show nd * 10 + t / 100 = 10 * nd + t / 100 by omega]
  refine j_istore_n hF dX2_recordDelivery_9 (Nat.le_of_ble_eq_true rfl) rfl (j_aload_n hF dX2_recordDelivery_10 rfl (j_get hF h1 fl_RX2_48 dX2_recordDelivery_11 rfl (j_iload_n hF dX2_recordDelivery_14 rfl (j_aload_n hF dX2_recordDelivery_15 rfl (j_get hF h1 fl_RX2_48 dX2_recordDelivery_16 rfl ?_)))))
  refine j_iload_n hF dX2_recordDelivery_19 rfl (j_iald hF hdc.1 dX2_recordDelivery_20 (by omega) (fun ra1 rb1 => ?_))
  have hrg : -1 ≤ fd (10 * nd + t / 100) ∧ fd (10 * nd + t / 100) ≤ 99 := by
    rcases hdc.2 nd (t / 100) hn.1 hn.2 (by omega) (by omega) with q | q
    · omega
    · omega
  refine j_iload_n hF dX2_recordDelivery_21 rfl (j_callSN hF (c_X7_countersOf (by omega)) ms_X7_countersOf mt_X7_countersOf ln_RX2_93 dX2_recordDelivery_22 rfl rfl rfl (by simp [Value.category]) ⟨⟨(Nat.le_of_ble_eq_true rfl), (Nat.le_of_ble_eq_true rfl)⟩, by omega, by omega⟩ (fun v2 X2 hp2 hE2 => ?_))
  obtain ⟨rfl, he2⟩ := hp2; obtain rfl := he2.symm
  refine j_callS hF (c_J9_max_7cf53 (by omega) (by omega)) ms_J9_max_7cf53 mt_J9_max_7cf53 lk_RX2_96 dX2_recordDelivery_25 rfl rfl rfl (by simp [Value.category]) ⟨⟨(Nat.le_of_ble_eq_true rfl), (Nat.le_of_ble_eq_true rfl)⟩, by omega, by omega⟩ (fun v3 X3 hp3 hE3 => ?_)
  obtain ⟨rfl, he3⟩ := hp3; obtain rfl := he3.symm
  refine j_iast hF hdc.1 dX2_recordDelivery_28 (by omega) (by split <;> omega) (j_nm (fun X4 eX4 => ?_))
  have hFd : FB (B + 61) (B + 62) X X4 := FB.up eX4 hdc.1 (by omega) (by omega)
  have hS := hS.dc hG hA hFd (ups eX4) (hdc.2.set hn ht) (fun i _ i2 => fu_n (by omega))
  have h1 := hS.o1
  refine j_aload_n hF dX2_recordDelivery_29 rfl (j_dup hF dX2_recordDelivery_30 rfl (j_get hF h1 fl_RX2_101 dX2_recordDelivery_31 rfl (j_iconst hF dX2_recordDelivery_34 (j_iadd hF dX2_recordDelivery_35 (j_put hF h1 fl_RX2_101 dX2_recordDelivery_36 rfl rfl (Nat.le_of_ble_eq_true rfl) (j_nm (fun X5 eX5 => ?_)))))))
  have hFs : FB B (B + 10) X4 X5 := FB.up eX5 hS.o1 (by omega) (by omega)
  rw [fu_n (by omega), fu_n (by omega), fu_n (by omega)] at eX5
  have hS := hS.st (r' := (fu (fu r 3 (r 3 + 1)) (359 + 1000 * nd + t) 1)) (hG.row (fun i _ _ => fu_n (by omega))) (hA.row (fun i _ _ => fu_n (by omega))) hFs (by rw [fu_n (by omega), fu_n (by omega), fu_n (by omega), fu_s, fu_n (by omega), fu_n (by omega)]; exact ups eX5) (fun i _ i2 => by rw [fu_cm (by omega), fu_n (by omega)])
  have hV := ((hV.keep hFd (by omega)).keep hFs (by omega)).row (r' := (fu (fu r 3 (r 3 + 1)) (359 + 1000 * nd + t) 1)) (fun i i1 => by rw [fu_n (by omega), fu_n (by omega)])
  have hQ := ((hQ.keep hFd (by omega)).keep hFs (by omega)).row (r' := (fu (fu r 3 (r 3 + 1)) (359 + 1000 * nd + t) 1)) (fun i i1 i2 => by rw [fu_n (by omega), fu_n (by omega)])
  refine j_vret hF hR dX2_recordDelivery_39 (by omega) (by omega) ?_
  exact ⟨rfl, ⟨_, _, _, _, _, _, _, _, _, _, _, _, _, hS, hV, hQ, hk⟩, (hFd.mono (by omega) (by omega)).trans (hFs.mono (by omega) (by omega))⟩

set_option maxRecDepth 100000 in
set_option maxHeartbeats 4000000 in
theorem c_X2_recordArrival {X : Hp} {B st kap : Nat} {r : Int → Int} (hST : ST X B st kap r) {nd t : Int} (hG : GI r) (hA : AS r) (hn : 0 ≤ nd ∧ nd < 6) (ht : 0 ≤ t ∧ t ≤ 999) : Ct yX2_recordArrival cX2_recordArrival 4 none 1 20 [.ref st, vi nd, vi t] X 0 0 (fun rv X' => rv = none ∧ ST X' B st kap (fu r 4 (r 4 + bz (m_vio r nd t))) ∧ FB B (B + 100) X X') := by
  refine Ct.of (by decide +kernel) [some (.ref st), some (vi nd), some (vi t), none] rfl (Nat.le_of_ble_eq_true rfl) (fun φ hF hR => ?_)
  obtain ⟨g, ml, ws, va, qa, oe, dc, v, q, n, m_, z, fi, hS, hV, hQ, hk⟩ := id hST
  obtain ⟨fd, hdc⟩ := hS.fo
  have h1 := hS.o1
  refine j_iload_n hF dX2_recordArrival_0 rfl (j_bipush hF dX2_recordArrival_1 (by decide) (j_idiv hF dX2_recordArrival_3 (by omega) (j_istore_n hF dX2_recordArrival_4 (Nat.le_of_ble_eq_true rfl) rfl ?_)))
  have LL : ∀ (n : Nat) (k : Int), (10 - k).toNat < n → t / 100 ≤ k ∧ k ≤ 10 → (∀ e, t / 100 ≤ e → e < k → fd (10 * nd + e) < t % 100) → Jd φ X 0 0 5 [some (.ref st), some (vi nd), some (vi t), some (vi k)] [] := by
    intro n
    induction n with
    | zero => intro k hfu; exact absurd hfu (by omega)
    | succ n ih =>
      intro k hfu hk_ hB
      refine j_iload_n hF dX2_recordArrival_5 rfl (j_bipush hF dX2_recordArrival_6 (by decide) (j_icmp_ge hF 46 dX2_recordArrival_8 (by decide) (by omega) (fun c8 => ?_) (fun c8 => ?_)))
      ·
        refine j_vret hF hR dX2_recordArrival_46 (by omega) (by omega) ?_
        have hno : ¬ m_vio r nd t := by
          rintro ⟨e, e1, e2, e3, e4, e5⟩
          have q0 := hB (e / 100) (by omega) (by omega)
          rcases hdc.2 nd (e / 100) hn.1 hn.2 (by omega) (by omega) with q | q
          · exact q.2 (e % 100) (by omega) (by omega) (by rw [show 100 * (e / 100) + e % 100 = e by omega]; exact e3)
          · have q1 := q.2.2 (e % 100) (by omega) (by omega) (by rw [show 100 * (e / 100) + e % 100 = e by omega]; exact e3)
            omega
        rw [bz_f hno, show r 4 + 0 = r 4 by omega, fu_id]
        exact ⟨rfl, hST, FB.refl _ _ X⟩
      ·
        refine j_aload_n hF dX2_recordArrival_11 rfl (j_get hF h1 fl_RX2_48 dX2_recordArrival_12 rfl (j_iload_n hF dX2_recordArrival_15 rfl (j_bipush hF dX2_recordArrival_16 (by decide) (j_imul hF dX2_recordArrival_18 (j_iload_n hF dX2_recordArrival_19 rfl ?_)))))
        refine j_iadd hF dX2_recordArrival_20 ?_
        rw [show nd * 10 + k = 10 * nd + k by omega]
        refine j_iald hF hdc.1 dX2_recordArrival_21 (by omega) (fun ra1 rb1 => ?_)
        have hrg : -1 ≤ fd (10 * nd + k) ∧ fd (10 * nd + k) ≤ 99 := by
          rcases hdc.2 nd k hn.1 hn.2 (by omega) (by omega) with q | q
          · omega
          · omega
        refine j_iload_n hF dX2_recordArrival_22 rfl (j_callSN hF (c_X7_countersOf (by omega)) ms_X7_countersOf mt_X7_countersOf ln_RX2_93 dX2_recordArrival_23 rfl rfl rfl (by simp [Value.category]) ⟨⟨(Nat.le_of_ble_eq_true rfl), (Nat.le_of_ble_eq_true rfl)⟩, by omega, by omega⟩ (fun v2 X2 hp2 hE2 => ?_))
        obtain ⟨rfl, he2⟩ := hp2; obtain rfl := he2.symm
        refine j_icmp_lt hF 40 dX2_recordArrival_26 (by decide) (by omega) (fun c26 => ?_) (fun c26 => ?_)
        ·
          refine j_iinc hF dX2_recordArrival_40 rfl (Nat.le_of_ble_eq_true rfl) rfl (j_goto hF 5 dX2_recordArrival_43 (by decide) ?_)
          refine ih (k + 1) (by omega) (by omega) (fun e e1 e2 => ?_)
          by_cases q : e = k
          · rw [q]; omega
          · exact hB e e1 (by omega)
        ·
          refine j_aload_n hF dX2_recordArrival_29 rfl (j_dup hF dX2_recordArrival_30 rfl (j_get hF h1 fl_RX2_104 dX2_recordArrival_31 rfl (j_iconst hF dX2_recordArrival_34 (j_iadd hF dX2_recordArrival_35 (j_put hF h1 fl_RX2_104 dX2_recordArrival_36 rfl rfl (Nat.le_of_ble_eq_true rfl) (j_nm (fun X3 eX3 => ?_)))))))
          have hvio : m_vio r nd t := by
            refine ⟨100 * k + fd (10 * nd + k), by omega, by omega, ?_, by omega, by omega⟩
            rcases hdc.2 nd k hn.1 hn.2 (by omega) (by omega) with q | q
            · omega
            · exact q.2.1
          have hFs : FB B (B + 10) X X3 := FB.up eX3 h1 (by omega) (by omega)
          have hS := hS.st (r' := (fu r 4 (r 4 + bz (m_vio r nd t)))) hG hA hFs (by rw [fu_n (by omega), fu_n (by omega), fu_s, bz_t hvio]; exact ups eX3) (fun i _ i2 => fu_n (by omega))
          have hV := (hV.keep hFs (by omega)).row (r' := (fu r 4 (r 4 + bz (m_vio r nd t)))) (fun i i1 => fu_n (by omega))
          have hQ := (hQ.keep hFs (by omega)).row (r' := (fu r 4 (r 4 + bz (m_vio r nd t)))) (fun i i1 i2 => fu_n (by omega))
          refine j_vret hF hR dX2_recordArrival_39 (by omega) (by omega) ?_
          exact ⟨rfl, ⟨_, _, _, _, _, _, _, _, _, _, _, _, _, hS, hV, hQ, hk⟩, hFs.mono (by omega) (by omega)⟩
  exact LL 11 (t / 100) (by omega) (by omega) (fun e e1 e2 => absurd e2 (by omega))

