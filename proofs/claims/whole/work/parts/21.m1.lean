/-! the model's row -/
def GI (r : Int → Int) : Prop := (0 ≤ r 0 ∧ r 0 ≤ 6) ∧ (0 ≤ r 1 ∧ r 1 ≤ 10) ∧ (∀ n, 0 ≤ n → n < 6 → 0 ≤ r (5 + n) ∧ r (5 + n) ≤ 2) ∧ (∀ e, 0 ≤ e → e < 10 → (0 ≤ r (17 + e) ∧ r (17 + e) < 6) ∧ (0 ≤ r (27 + e) ∧ r (27 + e) < 6) ∧ (0 ≤ r (37 + e) ∧ r (37 + e) ≤ 1))
theorem GI.dep {r : Int → Int} (h : GI r) (n : Int) (h1 : 0 ≤ n) (h2 : n < 6) : 0 ≤ r (5 + n) ∧ r (5 + n) ≤ 2 := h.2.2.1 n h1 h2
theorem GI.ed {r : Int → Int} (h : GI r) (e : Int) (h1 : 0 ≤ e) (h2 : e < 10) : (0 ≤ r (17 + e) ∧ r (17 + e) < 6) ∧ (0 ≤ r (27 + e) ∧ r (27 + e) < 6) ∧ (0 ≤ r (37 + e) ∧ r (37 + e) ≤ 1) := h.2.2.2 e h1 h2
def m_kind (r : Int → Int) (e : Int) : Int := if r (37 + e) = 1 then 3 else if r (5 + r (27 + e)) - r (5 + r (17 + e)) = 0 then 0 else if 0 < r (5 + r (27 + e)) - r (5 + r (17 + e)) then 1 else 2
def m_place (r : Int → Int) (p : Int) : Prop := (p < 6 ∧ 0 ≤ p ∧ p ≤ r 0 - 1) ∨ (6 ≤ p ∧ p - 6 ≤ r 1 - 1)
theorem m_kind_rg (r : Int → Int) (e : Int) : 0 ≤ m_kind r e ∧ m_kind r e ≤ 3 := by unfold m_kind; (repeat' split) <;> omega
def m_depth (r : Int → Int) (p : Int) : Int := if p < 6 then r (5 + p) else r (5 + r (17 + p - 6))
theorem GI.ed' {r : Int → Int} (h : GI r) (p : Int) (h1 : 6 ≤ p) (h2 : p < 16) : (0 ≤ r (17 + p - 6) ∧ r (17 + p - 6) < 6) := by
  have := (h.ed (p - 6) (by omega) (by omega)).1
  rwa [show (17 : Int) + (p - 6) = 17 + p - 6 by omega] at this
theorem GI.dpl {r : Int → Int} (h : GI r) {p : Int} (h1 : 0 ≤ p) (h2 : p < 16) : 0 ≤ m_depth r p ∧ m_depth r p ≤ 2 := by
  unfold m_depth
  split
  · exact h.dep p h1 (by omega)
  · have := h.ed' p (by omega) h2
    exact h.dep _ this.1 this.2
def m_time (r : Int → Int) (p t : Int) : Prop := (0 ≤ t ∧ t ≤ 999) ∧ (m_depth r p = 2 ∨ (m_depth r p = 1 ∧ t % 10 = 0) ∨ (m_depth r p = 0 ∧ t % 100 = 0))
def m_moved (r : Int → Int) (e t : Int) : Int := if m_kind r e = 2 then (if r (5 + r (17 + e)) = 2 then t - t % 10 else t - t % 100) else if m_kind r e = 3 then (if r (5 + r (17 + e)) = 2 then (if t % 10 = 9 then -1 else t + 1) else (if t / 10 % 10 = 9 then -1 else t + 10)) else t
def pw (e : Int) : Int := 2 ^ e.toNat
def hb (o e : Int) : Prop := o / pw e % 2 = 1
theorem in10 {e : Int} {P : Int → Prop} (h1 : 0 ≤ e) (h2 : e ≤ 10) (h : P 0 ∧ P 1 ∧ P 2 ∧ P 3 ∧ P 4 ∧ P 5 ∧ P 6 ∧ P 7 ∧ P 8 ∧ P 9 ∧ P 10) : P e := by
  obtain ⟨a0, a1, a2, a3, a4, a5, a6, a7, a8, a9, a10⟩ := h
  rcases (show e = 0 ∨ e = 1 ∨ e = 2 ∨ e = 3 ∨ e = 4 ∨ e = 5 ∨ e = 6 ∨ e = 7 ∨ e = 8 ∨ e = 9 ∨ e = 10 by omega) with rfl | rfl | rfl | rfl | rfl | rfl | rfl | rfl | rfl | rfl | rfl <;> assumption
theorem pw_shl {E : Int} (h1 : 0 ≤ E) (h2 : E ≤ 10) : Int32.ofInt 1 <<< (Int32.ofInt E &&& 31) = Int32.ofInt (pw E) ∧ 1 ≤ pw E ∧ pw E ≤ 1024 :=
  in10 (P := fun E => Int32.ofInt 1 <<< (Int32.ofInt E &&& 31) = Int32.ofInt (pw E) ∧ 1 ≤ pw E ∧ pw E ≤ 1024) h1 h2 (by decide +kernel)
theorem ja_shr {a k : Int} (h1 : 0 ≤ a) (h2 : a ≤ 2147483647) (h3 : 0 ≤ k) (h4 : k ≤ 10) : Int32.ofInt a >>> (Int32.ofInt k &&& 31) = Int32.ofInt (a / pw k) := by
  have e0 : Int32.ofInt a = nI a.toNat := by
    show _ = Int32.ofNat a.toNat
    rw [show Int32.ofNat a.toNat = Int32.ofInt (a.toNat : Int) from rfl, Int.toNat_of_nonneg h1]
  have hs : ((Int32.ofInt k &&& 31).toBitVec.smod 32).toNat = k.toNat := in10 (P := fun k => ((Int32.ofInt k &&& 31).toBitVec.smod 32).toNat = k.toNat) h3 h4 (by decide +kernel)
  rw [e0, pk_shrN (by omega) _ _ hs]
  show Int32.ofNat (a.toNat / 2 ^ k.toNat) = _
  rw [show Int32.ofNat (a.toNat / 2 ^ k.toNat) = Int32.ofInt ((a.toNat / 2 ^ k.toNat : Nat) : Int) from rfl]
  congr 1
  rw [Int.natCast_ediv, Int.toNat_of_nonneg h1, pw]
  congr 1
theorem ja_and1 {a : Int} (h1 : 0 ≤ a) (h2 : a ≤ 2147483647) : Int32.ofInt a &&& Int32.ofInt 1 = Int32.ofInt (a % 2) := by
  have e0 : Int32.ofInt a = nI a.toNat := by
    show _ = Int32.ofNat a.toNat
    rw [show Int32.ofNat a.toNat = Int32.ofInt (a.toNat : Int) from rfl, Int.toNat_of_nonneg h1]
  rw [e0, pk_andN (by omega) 1 (by decide)]
  show Int32.ofNat (a.toNat % 2 ^ 1) = _
  rw [show Int32.ofNat (a.toNat % 2 ^ 1) = Int32.ofInt ((a.toNat % 2 ^ 1 : Nat) : Int) from rfl]
  congr 1
  omega
theorem hb_sh {o e : Int} (h1 : 0 ≤ o) (h2 : o < 1024) (h3 : 0 ≤ e) (h4 : e < 10) : Int32.ofInt o >>> (Int32.ofInt e &&& 31) = Int32.ofInt (o / pw e) ∧ Int32.ofInt (o / pw e) &&& Int32.ofInt 1 = Int32.ofInt (o / pw e % 2) ∧ 0 ≤ o / pw e ∧ o / pw e < 1024 := by
  have hp := (pw_shl h3 (by omega)).2
  have a1 : 0 ≤ o / pw e := Int.ediv_nonneg h1 (by omega)
  have a2 : o / pw e ≤ o := Int.ediv_le_self _ h1
  exact ⟨ja_shr h1 (by omega) h3 (by omega), ja_and1 a1 (by omega), a1, by omega⟩
def EI (er : Int → Int) : Prop := ∀ j, 0 ≤ j → j < 4 → 0 ≤ er j ∧ er j ≤ 1000000
def fe (er : Int → Int) (c : Int) : Int → Int := fu er (-2 - c) (er (-2 - c) + 1)
set_option maxRecDepth 100000 in
set_option maxHeartbeats 4000000 in
theorem c_X8_within {X : Hp} {v lo hi : Int} (hv : (-2147483648 ≤ v ∧ v ≤ 2147483647) ∧ (-2147483648 ≤ lo ∧ lo ≤ 2147483647) ∧ -2147483648 ≤ hi ∧ hi ≤ 2147483647) : Ct yX8_within cX8_within 3 (some .boolean) 0 0 [vi v, vi lo, vi hi] X 0 0 (fun rv X' => rv = some (vi (bz (lo ≤ v ∧ v ≤ hi))) ∧ X' = X) := by
  refine Ct.of (by decide +kernel) [some (vi v), some (vi lo), some (vi hi)] rfl (Nat.le_of_ble_eq_true rfl) (fun φ hF hR => ?_)
  refine j_iload_n hF dX8_within_0 rfl (j_iload_n hF dX8_within_1 rfl (j_icmp_lt hF 14 dX8_within_2 (by decide) (by omega) (fun c2 => ?_) (fun c2 => ?_)))
  ·
    refine j_iconst hF dX8_within_14 (j_zret hF hR (Or.inl rfl) dX8_within_15 (by omega) (by omega) ?_)
    exact ⟨bz_r0 (by omega), rfl⟩
  ·
    refine j_iload_n hF dX8_within_5 rfl (j_iload_n hF dX8_within_6 rfl (j_icmp_gt hF 14 dX8_within_7 (by decide) (by omega) (fun c7 => ?_) (fun c7 => ?_)))
    ·
      refine j_iconst hF dX8_within_14 (j_zret hF hR (Or.inl rfl) dX8_within_15 (by omega) (by omega) ?_)
      exact ⟨bz_r0 (by omega), rfl⟩
    ·
      refine j_iconst hF dX8_within_10 (j_goto hF 15 dX8_within_11 (by decide) (j_zret hF hR (Or.inr rfl) dX8_within_15 (by omega) (by omega) ?_))
      exact ⟨bz_r1 (by omega), rfl⟩

set_option maxRecDepth 100000 in
set_option maxHeartbeats 4000000 in
theorem c_X8_isWorker {X : Hp} {w : Int} (hw : -2147483648 ≤ w ∧ w ≤ 2147483647) : Ct yX8_isWorker cX8_isWorker 1 (some .boolean) 1 22 [vi w] X 0 0 (fun rv X' => rv = some (vi (bz (0 ≤ w ∧ w ≤ 1))) ∧ X' = X) := by
  refine Ct.of (by decide +kernel) [some (vi w)] rfl (Nat.le_of_ble_eq_true rfl) (fun φ hF hR => ?_)
  refine j_iload_n hF dX8_isWorker_0 rfl (j_iconst hF dX8_isWorker_1 (j_iconst hF dX8_isWorker_2 (j_callS hF (c_X8_within (by omega)) ms_X8_within mt_X8_within lk_RX8_43 dX8_isWorker_3 rfl rfl rfl (by simp [Value.category]) ⟨⟨(Nat.le_of_ble_eq_true rfl), (Nat.le_of_ble_eq_true rfl)⟩, by omega, by omega⟩ (fun v1 X1 hp1 hE1 => ?_))))
  obtain ⟨rfl, he1⟩ := hp1; obtain rfl := he1.symm
  refine j_zret hF hR (bz_01 _) dX8_isWorker_6 (by omega) (by omega) ?_
  exact ⟨rfl, rfl⟩

set_option maxRecDepth 100000 in
set_option maxHeartbeats 4000000 in
theorem c_X8_isNode {X : Hp} {ad : Nat → Nat} {r pf : Int → Int} {sv : Int} {er sn lw rc wt : Int → Int} {wg : Int} {ls ac fi : Int → Int} {as : Int} {hh : Int64} (hM : MM X ad r pf sv er sn lw rc wt wg ls ac fi as hh) {n : Int} (hG : GI r) (hn : -2147483648 ≤ n ∧ n ≤ 2147483647) : Ct yX8_isNode cX8_isNode 2 (some .boolean) 1 22 [.ref (ad 0), vi n] X 0 0 (fun rv X' => rv = some (vi (bz (0 ≤ n ∧ n ≤ r 0 - 1))) ∧ X' = X) := by
  refine Ct.of (by decide +kernel) [some (.ref (ad 0)), some (vi n)] rfl (Nat.le_of_ble_eq_true rfl) (fun φ hF hR => ?_)
  have hM := hM.g
  have g0 := hG.1
  refine j_iload_n hF dX8_isNode_0 rfl (j_iconst hF dX8_isNode_1 (j_aload_n hF dX8_isNode_2 rfl (j_get hF hM.1.1 fl_RX8_8 dX8_isNode_3 rfl (j_iconst hF dX8_isNode_6 (j_iald hF hM.1.2.1 dX8_isNode_7 (by omega) (fun ra1 rb1 => ?_))))))
  refine j_iconst hF dX8_isNode_8 (j_isub hF dX8_isNode_9 (j_callS hF (c_X8_within (by omega)) ms_X8_within mt_X8_within lk_RX8_43 dX8_isNode_10 rfl rfl rfl (by simp [Value.category]) ⟨⟨(Nat.le_of_ble_eq_true rfl), (Nat.le_of_ble_eq_true rfl)⟩, by omega, by omega⟩ (fun v2 X2 hp2 hE2 => ?_)))
  obtain ⟨rfl, he2⟩ := hp2; obtain rfl := he2.symm
  refine j_zret hF hR (bz_01 _) dX8_isNode_13 (by omega) (by omega) ?_
  exact ⟨rfl, rfl⟩

set_option maxRecDepth 100000 in
set_option maxHeartbeats 4000000 in
theorem c_X8_isEdge {X : Hp} {ad : Nat → Nat} {r pf : Int → Int} {sv : Int} {er sn lw rc wt : Int → Int} {wg : Int} {ls ac fi : Int → Int} {as : Int} {hh : Int64} (hM : MM X ad r pf sv er sn lw rc wt wg ls ac fi as hh) {e : Int} (hG : GI r) (hn : -2147483648 ≤ e ∧ e ≤ 2147483647) : Ct yX8_isEdge cX8_isEdge 2 (some .boolean) 1 22 [.ref (ad 0), vi e] X 0 0 (fun rv X' => rv = some (vi (bz (0 ≤ e ∧ e ≤ r 1 - 1))) ∧ X' = X) := by
  refine Ct.of (by decide +kernel) [some (.ref (ad 0)), some (vi e)] rfl (Nat.le_of_ble_eq_true rfl) (fun φ hF hR => ?_)
  have hM := hM.g
  have g0 := hG.2.1
  refine j_iload_n hF dX8_isEdge_0 rfl (j_iconst hF dX8_isEdge_1 (j_aload_n hF dX8_isEdge_2 rfl (j_get hF hM.1.1 fl_RX8_8 dX8_isEdge_3 rfl (j_iconst hF dX8_isEdge_6 (j_iald hF hM.1.2.1 dX8_isEdge_7 (by omega) (fun ra1 rb1 => ?_))))))
  refine j_iconst hF dX8_isEdge_8 (j_isub hF dX8_isEdge_9 (j_callS hF (c_X8_within (by omega)) ms_X8_within mt_X8_within lk_RX8_43 dX8_isEdge_10 rfl rfl rfl (by simp [Value.category]) ⟨⟨(Nat.le_of_ble_eq_true rfl), (Nat.le_of_ble_eq_true rfl)⟩, by omega, by omega⟩ (fun v2 X2 hp2 hE2 => ?_)))
  obtain ⟨rfl, he2⟩ := hp2; obtain rfl := he2.symm
  refine j_zret hF hR (bz_01 _) dX8_isEdge_13 (by omega) (by omega) ?_
  exact ⟨rfl, rfl⟩

set_option maxRecDepth 100000 in
set_option maxHeartbeats 4000000 in
theorem c_X8_viewAt {X : Hp} {ad : Nat → Nat} {r pf : Int → Int} {sv : Int} {er sn lw rc wt : Int → Int} {wg : Int} {ls ac fi : Int → Int} {as : Int} {hh : Int64} (hM : MM X ad r pf sv er sn lw rc wt wg ls ac fi as hh) {w p t : Int} : Ct yX8_viewAt cX8_viewAt 4 (some .int) 0 0 [.ref (ad 0), vi w, vi p, vi t] X 0 0 (fun rv X' => rv = some (vi (6359 + 1000 * (16 * w + p) + t)) ∧ X' = X) := by
  refine Ct.of (by decide +kernel) [some (.ref (ad 0)), some (vi w), some (vi p), some (vi t)] rfl (Nat.le_of_ble_eq_true rfl) (fun φ hF hR => ?_)
  have hM := hM.g
  refine j_sipush hF dX8_viewAt_0 (by decide) (j_sipush hF dX8_viewAt_3 (by decide) (j_bipush hF dX8_viewAt_6 (by decide) (j_iload_n hF dX8_viewAt_8 rfl (j_imul hF dX8_viewAt_9 (j_iload_n hF dX8_viewAt_10 rfl ?_)))))
  refine j_iadd hF dX8_viewAt_11 (j_imul hF dX8_viewAt_12 (j_iadd hF dX8_viewAt_13 (j_iload_n hF dX8_viewAt_14 rfl (j_iadd hF dX8_viewAt_15 (j_iret hF hR dX8_viewAt_16 (by omega) (by omega) ?_)))))
  exact ⟨rfl, rfl⟩

set_option maxRecDepth 100000 in
set_option maxHeartbeats 4000000 in
theorem c_X8_isInput {X : Hp} {ad : Nat → Nat} {r pf : Int → Int} {sv : Int} {er sn lw rc wt : Int → Int} {wg : Int} {ls ac fi : Int → Int} {as : Int} {hh : Int64} (hM : MM X ad r pf sv er sn lw rc wt wg ls ac fi as hh) {n : Int} (hn : 0 ≤ n ∧ n < 6) : Ct yX8_isInput cX8_isInput 2 (some .boolean) 0 0 [.ref (ad 0), vi n] X 0 0 (fun rv X' => rv = some (vi (bz (¬ r (11 + n) = -1))) ∧ X' = X) := by
  refine Ct.of (by decide +kernel) [some (.ref (ad 0)), some (vi n)] rfl (Nat.le_of_ble_eq_true rfl) (fun φ hF hR => ?_)
  have hM := hM.g
  refine j_aload_n hF dX8_isInput_0 rfl (j_get hF hM.1.1 fl_RX8_8 dX8_isInput_1 rfl (j_bipush hF dX8_isInput_4 (by decide) (j_iload_n hF dX8_isInput_6 rfl (j_iadd hF dX8_isInput_7 (j_iald hF hM.1.2.1 dX8_isInput_8 (by omega) (fun ra1 rb1 => ?_))))))
  refine j_iconst hF dX8_isInput_9 (j_icmp_eq hF 17 dX8_isInput_10 (by decide) (by omega) (fun c10 => ?_) (fun c10 => ?_))
  ·
    refine j_iconst hF dX8_isInput_17 (j_zret hF hR (Or.inl rfl) dX8_isInput_18 (by omega) (by omega) ?_)
    exact ⟨bz_r0 (by omega), rfl⟩
  ·
    refine j_iconst hF dX8_isInput_13 (j_goto hF 18 dX8_isInput_14 (by decide) (j_zret hF hR (Or.inr rfl) dX8_isInput_18 (by omega) (by omega) ?_))
    exact ⟨bz_r1 (by omega), rfl⟩

set_option maxRecDepth 100000 in
set_option maxHeartbeats 4000000 in
theorem c_X8_lineOf {X : Hp} {ad : Nat → Nat} {r pf : Int → Int} {sv : Int} {er sn lw rc wt : Int → Int} {wg : Int} {ls ac fi : Int → Int} {as : Int} {hh : Int64} (hM : MM X ad r pf sv er sn lw rc wt wg ls ac fi as hh) {w e : Int} : Ct yX8_lineOf cX8_lineOf 3 (some .int) 0 0 [.ref (ad 0), vi w, vi e] X 0 0 (fun rv X' => rv = some (vi (10 * w + e)) ∧ X' = X) := by
  refine Ct.of (by decide +kernel) [some (.ref (ad 0)), some (vi w), some (vi e)] rfl (Nat.le_of_ble_eq_true rfl) (fun φ hF hR => ?_)
  have hM := hM.g
  refine j_bipush hF dX8_lineOf_0 (by decide) (j_iload_n hF dX8_lineOf_2 rfl (j_imul hF dX8_lineOf_3 (j_iload_n hF dX8_lineOf_4 rfl (j_iadd hF dX8_lineOf_5 (j_iret hF hR dX8_lineOf_6 (by omega) (by omega) ?_)))))
  exact ⟨rfl, rfl⟩

set_option maxRecDepth 100000 in
set_option maxHeartbeats 4000000 in
theorem c_X8_kindOf {X : Hp} {ad : Nat → Nat} {r pf : Int → Int} {sv : Int} {er sn lw rc wt : Int → Int} {wg : Int} {ls ac fi : Int → Int} {as : Int} {hh : Int64} (hM : MM X ad r pf sv er sn lw rc wt wg ls ac fi as hh) {e : Int} (hG : GI r) (he : 0 ≤ e ∧ e < 10) : Ct yX8_kindOf cX8_kindOf 3 (some .int) 0 0 [.ref (ad 0), vi e] X 0 0 (fun rv X' => rv = some (vi (m_kind r e)) ∧ X' = X) := by
  refine Ct.of (by decide +kernel) [some (.ref (ad 0)), some (vi e), none] rfl (Nat.le_of_ble_eq_true rfl) (fun φ hF hR => ?_)
  have hM := hM.g
  obtain ⟨⟨e1, e2⟩, ⟨e3, e4⟩, e5, e6⟩ := hG.ed e he.1 he.2
  have d1 := hG.dep _ e3 e4
  have d2 := hG.dep _ e1 e2
  refine j_aload_n hF dX8_kindOf_0 rfl (j_get hF hM.1.1 fl_RX8_8 dX8_kindOf_1 rfl (j_iconst hF dX8_kindOf_4 (j_aload_n hF dX8_kindOf_5 rfl (j_get hF hM.1.1 fl_RX8_8 dX8_kindOf_6 rfl (j_bipush hF dX8_kindOf_9 (by decide) ?_)))))
  refine j_iload_n hF dX8_kindOf_11 rfl (j_iadd hF dX8_kindOf_12 (j_iald hF hM.1.2.1 dX8_kindOf_13 (by omega) (fun ra1 rb1 => ?_)))
  refine j_iadd hF dX8_kindOf_14 (j_iald hF hM.1.2.1 dX8_kindOf_15 (by omega) (fun ra2 rb2 => ?_))
  refine j_aload_n hF dX8_kindOf_16 rfl (j_get hF hM.1.1 fl_RX8_8 dX8_kindOf_17 rfl (j_iconst hF dX8_kindOf_20 (j_aload_n hF dX8_kindOf_21 rfl (j_get hF hM.1.1 fl_RX8_8 dX8_kindOf_22 rfl (j_bipush hF dX8_kindOf_25 (by decide) ?_)))))
  refine j_iload_n hF dX8_kindOf_27 rfl (j_iadd hF dX8_kindOf_28 (j_iald hF hM.1.2.1 dX8_kindOf_29 (by omega) (fun ra3 rb3 => ?_)))
  refine j_iadd hF dX8_kindOf_30 (j_iald hF hM.1.2.1 dX8_kindOf_31 (by omega) (fun ra4 rb4 => ?_))
  refine j_isub hF dX8_kindOf_32 (j_istore_n hF dX8_kindOf_33 (Nat.le_of_ble_eq_true rfl) rfl (j_aload_n hF dX8_kindOf_34 rfl (j_get hF hM.1.1 fl_RX8_8 dX8_kindOf_35 rfl (j_bipush hF dX8_kindOf_38 (by decide) (j_iload_n hF dX8_kindOf_40 rfl ?_)))))
  refine j_iadd hF dX8_kindOf_41 (j_iald hF hM.1.2.1 dX8_kindOf_42 (by omega) (fun ra5 rb5 => ?_))
  refine j_iconst hF dX8_kindOf_43 (j_icmp_ne hF 51 dX8_kindOf_44 (by decide) (by omega) (fun c44 => ?_) (fun c44 => ?_))
  ·
    refine j_iload_n hF dX8_kindOf_51 rfl (j_if_ne hF 59 dX8_kindOf_52 (by decide) (by omega) (fun c52 => ?_) (fun c52 => ?_))
    ·
      refine j_iload_n hF dX8_kindOf_59 rfl (j_if_le hF 67 dX8_kindOf_60 (by decide) (by omega) (fun c60 => ?_) (fun c60 => ?_))
      ·
        refine j_iconst hF dX8_kindOf_67 (j_iret hF hR dX8_kindOf_68 (by omega) (by omega) ?_)
        exact ⟨sv_eq (by unfold m_kind; (repeat' split) <;> omega), rfl⟩
      ·
        refine j_iconst hF dX8_kindOf_63 (j_goto hF 68 dX8_kindOf_64 (by decide) (j_iret hF hR dX8_kindOf_68 (by omega) (by omega) ?_))
        exact ⟨sv_eq (by unfold m_kind; (repeat' split) <;> omega), rfl⟩
    ·
      refine j_iconst hF dX8_kindOf_55 (j_goto hF 68 dX8_kindOf_56 (by decide) (j_iret hF hR dX8_kindOf_68 (by omega) (by omega) ?_))
      exact ⟨sv_eq (by unfold m_kind; (repeat' split) <;> omega), rfl⟩
  ·
    refine j_iconst hF dX8_kindOf_47 (j_goto hF 68 dX8_kindOf_48 (by decide) (j_iret hF hR dX8_kindOf_68 (by omega) (by omega) ?_))
    exact ⟨sv_eq (by unfold m_kind; (repeat' split) <;> omega), rfl⟩

set_option maxRecDepth 100000 in
set_option maxHeartbeats 4000000 in
theorem c_X8_isPlace {X : Hp} {ad : Nat → Nat} {r pf : Int → Int} {sv : Int} {er sn lw rc wt : Int → Int} {wg : Int} {ls ac fi : Int → Int} {as : Int} {hh : Int64} (hM : MM X ad r pf sv er sn lw rc wt wg ls ac fi as hh) {p : Int} (hG : GI r) (hn : -2147483648 ≤ p ∧ p ≤ 2147483647) : Ct yX8_isPlace cX8_isPlace 2 (some .boolean) 2 43 [.ref (ad 0), vi p] X 0 0 (fun rv X' => rv = some (vi (bz (m_place r p))) ∧ X' = X) := by
  refine Ct.of (by decide +kernel) [some (.ref (ad 0)), some (vi p)] rfl (Nat.le_of_ble_eq_true rfl) (fun φ hF hR => ?_)
  have hM := hM.g
  have g0 := hG.1
  have g1 := hG.2.1
  refine j_iload_n hF dX8_isPlace_0 rfl (j_bipush hF dX8_isPlace_1 (by decide) (j_icmp_ge hF 14 dX8_isPlace_3 (by decide) (by omega) (fun c3 => ?_) (fun c3 => ?_)))
  ·
    refine j_aload_n hF dX8_isPlace_14 rfl (j_iload_n hF dX8_isPlace_15 rfl (j_bipush hF dX8_isPlace_16 (by decide) (j_isub hF dX8_isPlace_18 (j_callV hF (c_X8_isEdge hM.1 hG (by omega)) ms_X8_isEdge mv_X8_isEdge lk_RX8_77 dX8_isPlace_19 hM.1.1 rfl rfl rfl (by simp [Value.category]) ⟨⟨(Nat.le_of_ble_eq_true rfl), (Nat.le_of_ble_eq_true rfl)⟩, by omega, by omega⟩ (fun v1 X1 hp1 hE1 => ?_)))))
    obtain ⟨rfl, he1⟩ := hp1; obtain rfl := he1.symm
    refine j_zret hF hR (bz_01 _) dX8_isPlace_22 (by omega) (by omega) ?_
    exact ⟨sv_eq (bz_iff (by unfold m_place; omega)), rfl⟩
  ·
    refine j_aload_n hF dX8_isPlace_6 rfl (j_iload_n hF dX8_isPlace_7 rfl (j_callV hF (c_X8_isNode hM.1 hG (by omega)) ms_X8_isNode mv_X8_isNode lk_RX8_71 dX8_isPlace_8 hM.1.1 rfl rfl rfl (by simp [Value.category]) ⟨⟨(Nat.le_of_ble_eq_true rfl), (Nat.le_of_ble_eq_true rfl)⟩, by omega, by omega⟩ (fun v2 X2 hp2 hE2 => ?_)))
    obtain ⟨rfl, he2⟩ := hp2; obtain rfl := he2.symm
    refine j_goto hF 22 dX8_isPlace_11 (by decide) (j_zret hF hR (bz_01 _) dX8_isPlace_22 (by omega) (by omega) ?_)
    exact ⟨sv_eq (bz_iff (by unfold m_place; omega)), rfl⟩

set_option maxRecDepth 100000 in
set_option maxHeartbeats 4000000 in
theorem c_X8_depthAt {X : Hp} {ad : Nat → Nat} {r pf : Int → Int} {sv : Int} {er sn lw rc wt : Int → Int} {wg : Int} {ls ac fi : Int → Int} {as : Int} {hh : Int64} (hM : MM X ad r pf sv er sn lw rc wt wg ls ac fi as hh) {p : Int} (hG : GI r) (hp : 0 ≤ p ∧ p < 16) : Ct yX8_depthAt cX8_depthAt 2 (some .int) 0 0 [.ref (ad 0), vi p] X 0 0 (fun rv X' => rv = some (vi (m_depth r p)) ∧ X' = X) := by
  refine Ct.of (by decide +kernel) [some (.ref (ad 0)), some (vi p)] rfl (Nat.le_of_ble_eq_true rfl) (fun φ hF hR => ?_)
  have hM := hM.g
  refine j_aload_n hF dX8_depthAt_0 rfl (j_get hF hM.1.1 fl_RX8_8 dX8_depthAt_1 rfl (j_iconst hF dX8_depthAt_4 (j_iload_n hF dX8_depthAt_5 rfl (j_bipush hF dX8_depthAt_6 (by decide) (j_icmp_ge hF 15 dX8_depthAt_8 (by decide) (by omega) (fun c8 => ?_) (fun c8 => ?_))))))
  ·
    have g2 := hG.ed' p (by omega) hp.2
    refine j_aload_n hF dX8_depthAt_15 rfl (j_get hF hM.1.1 fl_RX8_8 dX8_depthAt_16 rfl (j_bipush hF dX8_depthAt_19 (by decide) (j_iload_n hF dX8_depthAt_21 rfl (j_iadd hF dX8_depthAt_22 (j_bipush hF dX8_depthAt_23 (by decide) ?_)))))
    refine j_isub hF dX8_depthAt_25 (j_iald hF hM.1.2.1 dX8_depthAt_26 (by omega) (fun ra1 rb1 => ?_))
    refine j_iadd hF dX8_depthAt_27 (j_iald hF hM.1.2.1 dX8_depthAt_28 (by omega) (fun ra2 rb2 => ?_))
    refine j_iret hF hR dX8_depthAt_29 (by omega) (by omega) ?_
    exact ⟨sv_eq (by unfold m_depth; split <;> first | rfl | omega), rfl⟩
  ·
    refine j_iload_n hF dX8_depthAt_11 rfl (j_goto hF 27 dX8_depthAt_12 (by decide) (j_iadd hF dX8_depthAt_27 (j_iald hF hM.1.2.1 dX8_depthAt_28 (by omega) (fun ra3 rb3 => ?_))))
    refine j_iret hF hR dX8_depthAt_29 (by omega) (by omega) ?_
    exact ⟨sv_eq (by unfold m_depth; split <;> first | rfl | omega), rfl⟩

set_option maxRecDepth 100000 in
set_option maxHeartbeats 4000000 in
theorem c_X8_isTime {X : Hp} {ad : Nat → Nat} {r pf : Int → Int} {sv : Int} {er sn lw rc wt : Int → Int} {wg : Int} {ls ac fi : Int → Int} {as : Int} {hh : Int64} (hM : MM X ad r pf sv er sn lw rc wt wg ls ac fi as hh) {p t : Int} (hG : GI r) (hp : 0 ≤ p ∧ p < 16) (ht : -2147483648 ≤ t ∧ t ≤ 2147483647) : Ct yX8_isTime cX8_isTime 4 (some .boolean) 1 22 [.ref (ad 0), vi p, vi t] X 0 0 (fun rv X' => rv = some (vi (bz (m_time r p t))) ∧ X' = X) := by
  refine Ct.of (by decide +kernel) [some (.ref (ad 0)), some (vi p), some (vi t), none] rfl (Nat.le_of_ble_eq_true rfl) (fun φ hF hR => ?_)
  have hM := hM.g
  have g3 := hG.dpl hp.1 hp.2
  refine j_aload_n hF dX8_isTime_0 rfl (j_iload_n hF dX8_isTime_1 rfl (j_callV hF (c_X8_depthAt hM.1 hG (by omega)) ms_X8_depthAt mv_X8_depthAt lk_RX8_83 dX8_isTime_2 hM.1.1 rfl rfl rfl (by simp [Value.category]) ⟨⟨(Nat.le_of_ble_eq_true rfl), (Nat.le_of_ble_eq_true rfl)⟩, by omega, by omega⟩ (fun v1 X1 hp1 hE1 => ?_)))
  obtain ⟨rfl, he1⟩ := hp1; obtain rfl := he1.symm
  refine j_istore_n hF dX8_isTime_5 (Nat.le_of_ble_eq_true rfl) rfl (j_iload_n hF dX8_isTime_6 rfl (j_iconst hF dX8_isTime_7 (j_sipush hF dX8_isTime_8 (by decide) (j_callS hF (c_X8_within (by omega)) ms_X8_within mt_X8_within lk_RX8_43 dX8_isTime_11 rfl rfl rfl (by simp [Value.category]) ⟨⟨(Nat.le_of_ble_eq_true rfl), (Nat.le_of_ble_eq_true rfl)⟩, by omega, by omega⟩ (fun v2 X2 hp2 hE2 => ?_)))))
  obtain ⟨rfl, he2⟩ := hp2; obtain rfl := he2.symm
  refine j_b_eq hF 43 dX8_isTime_14 (by decide) (fun c14 => ?_) (fun c14 => ?_)
  ·
    refine j_iconst hF dX8_isTime_43 (j_zret hF hR (Or.inl rfl) dX8_isTime_44 (by omega) (by omega) ?_)
    exact ⟨bz_r0 (by unfold m_time; omega), rfl⟩
  ·
    refine j_iload_n hF dX8_isTime_17 rfl (j_iconst hF dX8_isTime_18 (j_icmp_eq hF 39 dX8_isTime_19 (by decide) (by omega) (fun c19 => ?_) (fun c19 => ?_)))
    ·
      refine j_iconst hF dX8_isTime_39 (j_goto hF 44 dX8_isTime_40 (by decide) (j_zret hF hR (Or.inr rfl) dX8_isTime_44 (by omega) (by omega) ?_))
      exact ⟨bz_r1 (by unfold m_time; omega), rfl⟩
    ·
      refine j_iload_n hF dX8_isTime_22 rfl (j_iload_n hF dX8_isTime_23 rfl (j_iconst hF dX8_isTime_24 (j_icmp_ne hF 33 dX8_isTime_25 (by decide) (by omega) (fun c25 => ?_) (fun c25 => ?_))))
      ·
        refine j_bipush hF dX8_isTime_33 (by decide) (j_irem hF dX8_isTime_35 (by omega) (j_if_ne hF 43 dX8_isTime_36 (by decide) (by omega) (fun c36 => ?_) (fun c36 => ?_)))
        ·
          refine j_iconst hF dX8_isTime_43 (j_zret hF hR (Or.inl rfl) dX8_isTime_44 (by omega) (by omega) ?_)
          exact ⟨bz_r0 (by unfold m_time; omega), rfl⟩
        ·
          refine j_iconst hF dX8_isTime_39 (j_goto hF 44 dX8_isTime_40 (by decide) (j_zret hF hR (Or.inr rfl) dX8_isTime_44 (by omega) (by omega) ?_))
          exact ⟨bz_r1 (by unfold m_time; omega), rfl⟩
      ·
        refine j_bipush hF dX8_isTime_28 (by decide) (j_goto hF 35 dX8_isTime_30 (by decide) (j_irem hF dX8_isTime_35 (by omega) (j_if_ne hF 43 dX8_isTime_36 (by decide) (by omega) (fun c36 => ?_) (fun c36 => ?_))))
        ·
          refine j_iconst hF dX8_isTime_43 (j_zret hF hR (Or.inl rfl) dX8_isTime_44 (by omega) (by omega) ?_)
          exact ⟨bz_r0 (by unfold m_time; omega), rfl⟩
        ·
          refine j_iconst hF dX8_isTime_39 (j_goto hF 44 dX8_isTime_40 (by decide) (j_zret hF hR (Or.inr rfl) dX8_isTime_44 (by omega) (by omega) ?_))
          exact ⟨bz_r1 (by unfold m_time; omega), rfl⟩

set_option maxRecDepth 100000 in
set_option maxHeartbeats 4000000 in
theorem c_X8_moved {X : Hp} {ad : Nat → Nat} {r pf : Int → Int} {sv : Int} {er sn lw rc wt : Int → Int} {wg : Int} {ls ac fi : Int → Int} {as : Int} {hh : Int64} (hM : MM X ad r pf sv er sn lw rc wt wg ls ac fi as hh) {e t : Int} (hG : GI r) (he : 0 ≤ e ∧ e < 10) (ht : 0 ≤ t ∧ t ≤ 999) : Ct yX8_moved cX8_moved 6 (some .int) 1 22 [.ref (ad 0), vi e, vi t] X 0 0 (fun rv X' => rv = some (vi (m_moved r e t)) ∧ X' = X) := by
  refine Ct.of (by decide +kernel) [some (.ref (ad 0)), some (vi e), some (vi t), none, none, none] rfl (Nat.le_of_ble_eq_true rfl) (fun φ hF hR => ?_)
  have hM := hM.g
  obtain ⟨⟨e1, e2⟩, ⟨e3, e4⟩, e5, e6⟩ := hG.ed e he.1 he.2
  have d1 := hG.dep _ e3 e4
  have d2 := hG.dep _ e1 e2
  have k1 := m_kind_rg r e
  refine j_aload_n hF dX8_moved_0 rfl (j_iload_n hF dX8_moved_1 rfl (j_callV hF (c_X8_kindOf hM.1 hG (by omega)) ms_X8_kindOf mv_X8_kindOf lk_RX8_80 dX8_moved_2 hM.1.1 rfl rfl rfl (by simp [Value.category]) ⟨⟨(Nat.le_of_ble_eq_true rfl), (Nat.le_of_ble_eq_true rfl)⟩, by omega, by omega⟩ (fun v1 X1 hp1 hE1 => ?_)))
  obtain ⟨rfl, he1⟩ := hp1; obtain rfl := he1.symm
  refine j_istore_n hF dX8_moved_5 (Nat.le_of_ble_eq_true rfl) rfl (j_aload_n hF dX8_moved_6 rfl (j_get hF hM.1.1 fl_RX8_8 dX8_moved_7 rfl (j_iconst hF dX8_moved_10 (j_aload_n hF dX8_moved_11 rfl (j_get hF hM.1.1 fl_RX8_8 dX8_moved_12 rfl ?_)))))
  refine j_bipush hF dX8_moved_15 (by decide) (j_iload_n hF dX8_moved_17 rfl (j_iadd hF dX8_moved_18 (j_iald hF hM.1.2.1 dX8_moved_19 (by omega) (fun ra2 rb2 => ?_))))
  refine j_iadd hF dX8_moved_20 (j_iald hF hM.1.2.1 dX8_moved_21 (by omega) (fun ra3 rb3 => ?_))
  refine j_iconst hF dX8_moved_22 (j_icmp_ne hF 30 dX8_moved_23 (by decide) (by omega) (fun c23 => ?_) (fun c23 => ?_))
  ·
    refine j_iconst hF dX8_moved_30 (j_istore hF dX8_moved_31 (Nat.le_of_ble_eq_true rfl) rfl (j_iload_n hF dX8_moved_33 rfl (j_iconst hF dX8_moved_34 (j_icmp_ne hF 59 dX8_moved_35 (by decide) (by omega) (fun c35 => ?_) (fun c35 => ?_)))))
    ·
      refine j_iload_n hF dX8_moved_59 rfl (j_iconst hF dX8_moved_60 (j_icmp_ne hF 110 dX8_moved_61 (by decide) (by omega) (fun c61 => ?_) (fun c61 => ?_)))
      ·
        refine j_iload_n hF dX8_moved_110 rfl (j_iret hF hR dX8_moved_111 (by omega) (by omega) ?_)
        exact ⟨sv_eq (by unfold m_moved; (repeat' split) <;> omega), rfl⟩
      ·
        refine j_iload hF dX8_moved_64 rfl (j_if_eq hF 76 dX8_moved_66 (by decide) (by omega) (fun c66 => ?_) (fun c66 => absurd c66 (by omega)))
        refine j_iload_n hF dX8_moved_76 rfl (j_bipush hF dX8_moved_77 (by decide) (j_idiv hF dX8_moved_79 (by omega) (j_bipush hF dX8_moved_80 (by decide) (j_irem hF dX8_moved_82 (by omega) (j_istore hF dX8_moved_83 (Nat.le_of_ble_eq_true rfl) rfl ?_)))))
        refine j_iload hF dX8_moved_85 rfl (j_bipush hF dX8_moved_87 (by decide) (j_icmp_ne hF 96 dX8_moved_89 (by decide) (by omega) (fun c89 => ?_) (fun c89 => ?_)))
        ·
          refine j_iload_n hF dX8_moved_96 rfl (j_iload hF dX8_moved_97 rfl (j_if_eq hF 106 dX8_moved_99 (by decide) (by omega) (fun c99 => ?_) (fun c99 => absurd c99 (by omega))))
          refine j_bipush hF dX8_moved_106 (by decide) (j_iadd hF dX8_moved_108 (j_iret hF hR dX8_moved_109 (by omega) (by omega) ?_))
          exact ⟨sv_eq (by unfold m_moved; (repeat' split) <;> omega), rfl⟩
        ·
          refine j_iconst hF dX8_moved_92 (j_goto hF 109 dX8_moved_93 (by decide) (j_iret hF hR dX8_moved_109 (by omega) (by omega) ?_))
          exact ⟨sv_eq (by unfold m_moved; (repeat' split) <;> omega), rfl⟩
    ·
      refine j_iload hF dX8_moved_38 rfl (j_if_eq hF 52 dX8_moved_40 (by decide) (by omega) (fun c40 => ?_) (fun c40 => absurd c40 (by omega)))
      refine j_iload_n hF dX8_moved_52 rfl (j_iload_n hF dX8_moved_53 rfl (j_bipush hF dX8_moved_54 (by decide) (j_irem hF dX8_moved_56 (by omega) (j_isub hF dX8_moved_57 (j_iret hF hR dX8_moved_58 (by omega) (by omega) ?_)))))
      exact ⟨sv_eq (by unfold m_moved; (repeat' split) <;> omega), rfl⟩
  ·
    refine j_iconst hF dX8_moved_26 (j_goto hF 31 dX8_moved_27 (by decide) (j_istore hF dX8_moved_31 (Nat.le_of_ble_eq_true rfl) rfl (j_iload_n hF dX8_moved_33 rfl (j_iconst hF dX8_moved_34 (j_icmp_ne hF 59 dX8_moved_35 (by decide) (by omega) (fun c35 => ?_) (fun c35 => ?_))))))
    ·
      refine j_iload_n hF dX8_moved_59 rfl (j_iconst hF dX8_moved_60 (j_icmp_ne hF 110 dX8_moved_61 (by decide) (by omega) (fun c61 => ?_) (fun c61 => ?_)))
      ·
        refine j_iload_n hF dX8_moved_110 rfl (j_iret hF hR dX8_moved_111 (by omega) (by omega) ?_)
        exact ⟨sv_eq (by unfold m_moved; (repeat' split) <;> omega), rfl⟩
      ·
        refine j_iload hF dX8_moved_64 rfl (j_if_eq hF 76 dX8_moved_66 (by decide) (by omega) (fun c66 => absurd c66 (by omega)) (fun c66 => ?_))
        refine j_iload_n hF dX8_moved_69 rfl (j_bipush hF dX8_moved_70 (by decide) (j_irem hF dX8_moved_72 (by omega) (j_goto hF 83 dX8_moved_73 (by decide) (j_istore hF dX8_moved_83 (Nat.le_of_ble_eq_true rfl) rfl (j_iload hF dX8_moved_85 rfl ?_)))))
        refine j_bipush hF dX8_moved_87 (by decide) (j_icmp_ne hF 96 dX8_moved_89 (by decide) (by omega) (fun c89 => ?_) (fun c89 => ?_))
        ·
          refine j_iload_n hF dX8_moved_96 rfl (j_iload hF dX8_moved_97 rfl (j_if_eq hF 106 dX8_moved_99 (by decide) (by omega) (fun c99 => absurd c99 (by omega)) (fun c99 => ?_)))
          refine j_iconst hF dX8_moved_102 (j_goto hF 108 dX8_moved_103 (by decide) (j_iadd hF dX8_moved_108 (j_iret hF hR dX8_moved_109 (by omega) (by omega) ?_)))
          exact ⟨sv_eq (by unfold m_moved; (repeat' split) <;> omega), rfl⟩
        ·
          refine j_iconst hF dX8_moved_92 (j_goto hF 109 dX8_moved_93 (by decide) (j_iret hF hR dX8_moved_109 (by omega) (by omega) ?_))
          exact ⟨sv_eq (by unfold m_moved; (repeat' split) <;> omega), rfl⟩
    ·
      refine j_iload hF dX8_moved_38 rfl (j_if_eq hF 52 dX8_moved_40 (by decide) (by omega) (fun c40 => absurd c40 (by omega)) (fun c40 => ?_))
      refine j_iload_n hF dX8_moved_43 rfl (j_iload_n hF dX8_moved_44 rfl (j_bipush hF dX8_moved_45 (by decide) (j_irem hF dX8_moved_47 (by omega) (j_isub hF dX8_moved_48 (j_goto hF 58 dX8_moved_49 (by decide) ?_)))))
      refine j_iret hF hR dX8_moved_58 (by omega) (by omega) ?_
      exact ⟨sv_eq (by unfold m_moved; (repeat' split) <;> omega), rfl⟩

set_option maxRecDepth 100000 in
set_option maxHeartbeats 4000000 in
theorem c_X8_isFullLine {X : Hp} {ad : Nat → Nat} {r pf : Int → Int} {sv : Int} {er sn lw rc wt : Int → Int} {wg : Int} {ls ac fi : Int → Int} {as : Int} {hh : Int64} (hM : MM X ad r pf sv er sn lw rc wt wg ls ac fi as hh) {w e : Int} (hw : 0 ≤ w ∧ w ≤ 1) (he : 0 ≤ e ∧ e < 10) : Ct yX8_isFullLine cX8_isFullLine 3 (some .boolean) 1 22 [.ref (ad 0), vi w, vi e] X 0 0 (fun rv X' => rv = some (vi (bz (r (47 + (10 * w + e)) = 12))) ∧ X' = X) := by
  refine Ct.of (by decide +kernel) [some (.ref (ad 0)), some (vi w), some (vi e)] rfl (Nat.le_of_ble_eq_true rfl) (fun φ hF hR => ?_)
  have hM := hM.g
  refine j_aload_n hF dX8_isFullLine_0 rfl (j_get hF hM.1.1 fl_RX8_8 dX8_isFullLine_1 rfl (j_bipush hF dX8_isFullLine_4 (by decide) (j_aload_n hF dX8_isFullLine_6 rfl (j_iload_n hF dX8_isFullLine_7 rfl (j_iload_n hF dX8_isFullLine_8 rfl ?_)))))
  refine j_callV hF (c_X8_lineOf hM.1) ms_X8_lineOf mv_X8_lineOf lk_RX8_108 dX8_isFullLine_9 hM.1.1 rfl rfl rfl (by simp [Value.category]) ⟨⟨(Nat.le_of_ble_eq_true rfl), (Nat.le_of_ble_eq_true rfl)⟩, by omega, by omega⟩ (fun v1 X1 hp1 hE1 => ?_)
  obtain ⟨rfl, he1⟩ := hp1; obtain rfl := he1.symm
  refine j_iadd hF dX8_isFullLine_12 (j_iald hF hM.1.2.1 dX8_isFullLine_13 (by omega) (fun ra2 rb2 => ?_))
  refine j_bipush hF dX8_isFullLine_14 (by decide) (j_icmp_ne hF 23 dX8_isFullLine_16 (by decide) (by omega) (fun c16 => ?_) (fun c16 => ?_))
  ·
    refine j_iconst hF dX8_isFullLine_23 (j_zret hF hR (Or.inl rfl) dX8_isFullLine_24 (by omega) (by omega) ?_)
    exact ⟨bz_r0 (by omega), rfl⟩
  ·
    refine j_iconst hF dX8_isFullLine_19 (j_goto hF 24 dX8_isFullLine_20 (by decide) (j_zret hF hR (Or.inr rfl) dX8_isFullLine_24 (by omega) (by omega) ?_))
    exact ⟨bz_r1 (by omega), rfl⟩

set_option maxRecDepth 100000 in
set_option maxHeartbeats 4000000 in
theorem c_X8_areEdges {X : Hp} {ad : Nat → Nat} {r pf : Int → Int} {sv : Int} {er sn lw rc wt : Int → Int} {wg : Int} {ls ac fi : Int → Int} {as : Int} {hh : Int64} (hM : MM X ad r pf sv er sn lw rc wt wg ls ac fi as hh) {o : Int} (hG : GI r) (ho : -2147483648 ≤ o ∧ o ≤ 2147483647) : Ct yX8_areEdges cX8_areEdges 2 (some .boolean) 1 22 [.ref (ad 0), vi o] X 0 0 (fun rv X' => rv = some (vi (bz (0 ≤ o ∧ o ≤ pw (r 1) - 1))) ∧ X' = X) := by
  refine Ct.of (by decide +kernel) [some (.ref (ad 0)), some (vi o)] rfl (Nat.le_of_ble_eq_true rfl) (fun φ hF hR => ?_)
  have hM := hM.g
  have g0 := hG.2.1
  obtain ⟨q1, q2, q3⟩ := pw_shl g0.1 g0.2
  refine j_iload_n hF dX8_areEdges_0 rfl (j_iconst hF dX8_areEdges_1 (j_iconst hF dX8_areEdges_2 (j_aload_n hF dX8_areEdges_3 rfl (j_get hF hM.1.1 fl_RX8_8 dX8_areEdges_4 rfl (j_iconst hF dX8_areEdges_7 ?_)))))
  refine j_iald hF hM.1.2.1 dX8_areEdges_8 (by omega) (fun ra1 rb1 => ?_)
  refine j_ishl hF (pw (r 1)) q1 dX8_areEdges_9 (j_iconst hF dX8_areEdges_10 (j_isub hF dX8_areEdges_11 (j_callS hF (c_X8_within (by omega)) ms_X8_within mt_X8_within lk_RX8_43 dX8_areEdges_12 rfl rfl rfl (by simp [Value.category]) ⟨⟨(Nat.le_of_ble_eq_true rfl), (Nat.le_of_ble_eq_true rfl)⟩, by omega, by omega⟩ (fun v2 X2 hp2 hE2 => ?_))))
  obtain ⟨rfl, he2⟩ := hp2; obtain rfl := he2.symm
  refine j_zret hF hR (bz_01 _) dX8_areEdges_15 (by omega) (by omega) ?_
  exact ⟨rfl, rfl⟩

set_option maxRecDepth 100000 in
set_option maxHeartbeats 4000000 in
theorem c_X8_has {X : Hp} {o e : Int} (ho : 0 ≤ o ∧ o < 1024) (he : 0 ≤ e ∧ e < 10) : Ct yX8_has cX8_has 2 (some .boolean) 0 0 [vi o, vi e] X 0 0 (fun rv X' => rv = some (vi (bz (hb o e))) ∧ X' = X) := by
  refine Ct.of (by decide +kernel) [some (vi o), some (vi e)] rfl (Nat.le_of_ble_eq_true rfl) (fun φ hF hR => ?_)
  obtain ⟨q1, q2, q3, q4⟩ := hb_sh ho.1 ho.2 he.1 he.2
  refine j_iload_n hF dX8_has_0 rfl (j_iload_n hF dX8_has_1 rfl (j_ishr hF (o / pw e) q1 dX8_has_2 (j_iconst hF dX8_has_3 (j_iand hF (o / pw e % 2) q2 dX8_has_4 (j_iconst hF dX8_has_5 ?_)))))
  refine j_icmp_ne hF 13 dX8_has_6 (by decide) (by omega) (fun c6 => ?_) (fun c6 => ?_)
  ·
    refine j_iconst hF dX8_has_13 (j_zret hF hR (Or.inl rfl) dX8_has_14 (by omega) (by omega) ?_)
    exact ⟨bz_r0 (by unfold hb; omega), rfl⟩
  ·
    refine j_iconst hF dX8_has_9 (j_goto hF 14 dX8_has_10 (by decide) (j_zret hF hR (Or.inr rfl) dX8_has_14 (by omega) (by omega) ?_))
    exact ⟨bz_r1 (by unfold hb; omega), rfl⟩

set_option maxRecDepth 100000 in
set_option maxHeartbeats 4000000 in
theorem c_X8_atMost {X : Hp} {s t : Int} (hs : 0 ≤ s ∧ s ≤ 999) (ht : 0 ≤ t ∧ t ≤ 999) : Ct yX8_atMost cX8_atMost 2 (some .boolean) 0 0 [vi s, vi t] X 0 0 (fun rv X' => rv = some (vi (bz (s / 100 ≤ t / 100 ∧ s % 100 ≤ t % 100))) ∧ X' = X) := by
  refine Ct.of (by decide +kernel) [some (vi s), some (vi t)] rfl (Nat.le_of_ble_eq_true rfl) (fun φ hF hR => ?_)
  refine j_iload_n hF dX8_atMost_0 rfl (j_bipush hF dX8_atMost_1 (by decide) (j_idiv hF dX8_atMost_3 (by omega) (j_iload_n hF dX8_atMost_4 rfl (j_bipush hF dX8_atMost_5 (by decide) (j_idiv hF dX8_atMost_7 (by omega) ?_)))))
  refine j_icmp_gt hF 26 dX8_atMost_8 (by decide) (by omega) (fun c8 => ?_) (fun c8 => ?_)
  ·
    refine j_iconst hF dX8_atMost_26 (j_zret hF hR (Or.inl rfl) dX8_atMost_27 (by omega) (by omega) ?_)
    exact ⟨bz_r0 (by omega), rfl⟩
  ·
    refine j_iload_n hF dX8_atMost_11 rfl (j_bipush hF dX8_atMost_12 (by decide) (j_irem hF dX8_atMost_14 (by omega) (j_iload_n hF dX8_atMost_15 rfl (j_bipush hF dX8_atMost_16 (by decide) (j_irem hF dX8_atMost_18 (by omega) ?_)))))
    refine j_icmp_gt hF 26 dX8_atMost_19 (by decide) (by omega) (fun c19 => ?_) (fun c19 => ?_)
    ·
      refine j_iconst hF dX8_atMost_26 (j_zret hF hR (Or.inl rfl) dX8_atMost_27 (by omega) (by omega) ?_)
      exact ⟨bz_r0 (by omega), rfl⟩
    ·
      refine j_iconst hF dX8_atMost_22 (j_goto hF 27 dX8_atMost_23 (by decide) (j_zret hF hR (Or.inr rfl) dX8_atMost_27 (by omega) (by omega) ?_))
      exact ⟨bz_r1 (by omega), rfl⟩

set_option maxRecDepth 100000 in
set_option maxHeartbeats 4000000 in
theorem c_X8_fails {X : Hp} {ad : Nat → Nat} {r pf : Int → Int} {sv : Int} {er sn lw rc wt : Int → Int} {wg : Int} {ls ac fi : Int → Int} {as : Int} {hh : Int64} (hM : MM X ad r pf sv er sn lw rc wt wg ls ac fi as hh) {c : Int} (hc : -5 ≤ c ∧ c ≤ -2) (hE : EI er) : Ct yX8_fails cX8_fails 2 (some .int) 0 0 [.ref (ad 0), vi c] X 0 0 (fun rv X' => rv = some (vi c) ∧ MG X X' ad r pf sv (fe er c) sn lw rc wt wg ls ac fi as hh) := by
  refine Ct.of (by decide +kernel) [some (.ref (ad 0)), some (vi c)] rfl (Nat.le_of_ble_eq_true rfl) (fun φ hF hR => ?_)
  have hM := hM.g
  have hE1 := hE (-2 - c) (by omega) (by omega)
  refine j_aload_n hF dX8_fails_0 rfl (j_get hF hM.1.1 fl_RX8_18 dX8_fails_1 rfl (j_bipush hF dX8_fails_4 (by decide) (j_iload_n hF dX8_fails_6 rfl (j_isub hF dX8_fails_7 (j_dup2 hF dX8_fails_8 rfl rfl ?_)))))
  refine j_iald hF hM.1.2.2.2.1 dX8_fails_9 (by omega) (fun ra1 rb1 => ?_)
  refine j_iconst hF dX8_fails_10 (j_iadd hF dX8_fails_11 (j_iast hF hM.1.2.2.2.1 dX8_fails_12 (by omega) (by omega) (j_nm (fun X2 eX2 => ?_))))
  have hM := hM.u_er eX2
  refine j_iload_n hF dX8_fails_13 rfl (j_iret hF hR dX8_fails_14 (by omega) (by omega) ?_)
  exact ⟨rfl, hM⟩
