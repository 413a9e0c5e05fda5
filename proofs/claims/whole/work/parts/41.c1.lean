/-! Graph -/
theorem he_sh {E o : Int} (h1 : 0 ≤ E) (h2 : E ≤ 10) (h3 : -2147483648 ≤ o) (h4 : o ≤ 2147483647) : ∃ z : Int, ((Int32.ofInt o).toUInt32 >>> ((Int32.ofInt E).toUInt32 &&& Int32.toUInt32 31)).toInt32 = Int32.ofInt z ∧ (-2147483648 ≤ z ∧ z ≤ 2147483647) ∧ (z = 0 ↔ 0 ≤ o ∧ o ≤ pw E - 1) := by
  have hs : (((Int32.ofInt E).toUInt32 &&& Int32.toUInt32 31).toBitVec % 32).toNat = E.toNat := in10 (P := fun E => (((Int32.ofInt E).toUInt32 &&& Int32.toUInt32 31).toBitVec % 32).toNat = E.toNat) h1 h2 (by decide +kernel)
  have hk := pk_ushr (Int32.ofInt o) (Int32.ofInt E) E.toNat hs
  generalize ((Int32.ofInt o).toUInt32 >>> ((Int32.ofInt E).toUInt32 &&& Int32.toUInt32 31)).toInt32 = y at hk ⊢
  refine ⟨y.toInt, (ja_self y).symm, ja_rg y, ?_⟩
  have hp := (pw_shl h1 h2).2
  have hpw : pw E = ((2 ^ E.toNat : Nat) : Int) := by unfold pw; rw [Int.natCast_pow]; rfl
  have ho : ((Int32.ofInt o).toBitVec.toNat : Int) = if 0 ≤ o then o else o + 4294967296 := by
    have e1 : (Int32.ofInt o).toInt = o := ja_T h3 h4
    have e2 : (Int32.ofInt o).toInt = (Int32.ofInt o).toBitVec.toInt := rfl
    rw [e1, BitVec.toInt_eq_toNat_cond] at e2
    have := (Int32.ofInt o).toBitVec.isLt
    split at e2 <;> split <;> omega
  have hy : y.toInt = 0 ↔ y.toBitVec.toNat = 0 := by
    have e2 : y.toInt = y.toBitVec.toInt := rfl
    rw [e2, BitVec.toInt_eq_toNat_cond]
    have := y.toBitVec.isLt
    split <;> omega
  rw [hy, hk, Nat.div_eq_zero_iff]
  constructor
  · intro q
    rcases q with q | q
    · omega
    · split at ho <;> omega
  · intro q
    right
    rw [if_pos q.1] at ho
    omega
def c_dep (fd fs : Int → Int) (x : Int) : Int := if x < 6 then fd x else fd (fs (x - 6))
def c_time (nc ec : Int) (fd fs : Int → Int) (x t : Int) : Prop := (((0 ≤ x ∧ x ≤ nc - 1) ∨ (6 ≤ x ∧ x - 6 ≤ ec - 1)) ∧ 0 ≤ t ∧ t ≤ 999) ∧ (c_dep fd fs x = 2 ∨ (c_dep fd fs x = 1 ∧ t % 10 = 0) ∨ (c_dep fd fs x = 0 ∧ t % 100 = 0))
def c_after (fd fs fk : Int → Int) (x t : Int) : Int := if fk x = 2 then (if fd (fs x) = 2 then t - t / 1 % 10 * 1 else t - t / 10 % 10 * 10) else if fk x = 3 then (if fd (fs x) = 2 then (if t / 1 % 10 = 9 then -1 else t + 1) else (if t / 10 % 10 = 9 then -1 else t + 10)) else t
set_option maxRecDepth 100000 in
set_option maxHeartbeats 4000000 in
theorem c_X0_hasNode {X : Hp} {b : Nat} {g d s e k : Nat} {nc ec : Int} {fd fs fe fk : Int → Int} (hM : GP X b g d s e k nc ec fd fs fe fk) {x : Int} (hn : 0 ≤ nc ∧ nc ≤ 6) (hx : -2147483648 ≤ x ∧ x ≤ 2147483647) : Ct yX0_hasNode cX0_hasNode 2 (some .boolean) 0 0 [.ref g, vi x] X 0 0 (fun rv X' => rv = some (vi (bz (0 ≤ x ∧ x ≤ nc - 1))) ∧ X' = X) := by
  refine Ct.of (by decide +kernel) [some (.ref g), some (vi x)] rfl (Nat.le_of_ble_eq_true rfl) (fun φ hF hR => ?_)
  have hM := hM.gg
  refine j_iload_n hF dX0_hasNode_0 rfl (j_if_lt hF 16 dX0_hasNode_1 (by decide) (by omega) (fun c1 => ?_) (fun c1 => ?_))
  ·
    refine j_iconst hF dX0_hasNode_16 (j_zret hF hR (Or.inl rfl) dX0_hasNode_17 (by omega) (by omega) ?_)
    exact ⟨bz_r0 (by omega), rfl⟩
  ·
    refine j_iload_n hF dX0_hasNode_4 rfl (j_aload_n hF dX0_hasNode_5 rfl (j_get hF hM.1.1 fl_RX0_24 dX0_hasNode_6 rfl (j_icmp_ge hF 16 dX0_hasNode_9 (by decide) (by omega) (fun c9 => ?_) (fun c9 => ?_))))
    ·
      refine j_iconst hF dX0_hasNode_16 (j_zret hF hR (Or.inl rfl) dX0_hasNode_17 (by omega) (by omega) ?_)
      exact ⟨bz_r0 (by omega), rfl⟩
    ·
      refine j_iconst hF dX0_hasNode_12 (j_goto hF 17 dX0_hasNode_13 (by decide) (j_zret hF hR (Or.inr rfl) dX0_hasNode_17 (by omega) (by omega) ?_))
      exact ⟨bz_r1 (by omega), rfl⟩

set_option maxRecDepth 100000 in
set_option maxHeartbeats 4000000 in
theorem c_X0_hasEdge {X : Hp} {b : Nat} {g d s e k : Nat} {nc ec : Int} {fd fs fe fk : Int → Int} (hM : GP X b g d s e k nc ec fd fs fe fk) {x : Int} (hn : 0 ≤ ec ∧ ec ≤ 10) (hx : -2147483648 ≤ x ∧ x ≤ 2147483647) : Ct yX0_hasEdge cX0_hasEdge 2 (some .boolean) 0 0 [.ref g, vi x] X 0 0 (fun rv X' => rv = some (vi (bz (0 ≤ x ∧ x ≤ ec - 1))) ∧ X' = X) := by
  refine Ct.of (by decide +kernel) [some (.ref g), some (vi x)] rfl (Nat.le_of_ble_eq_true rfl) (fun φ hF hR => ?_)
  have hM := hM.gg
  refine j_iload_n hF dX0_hasEdge_0 rfl (j_if_lt hF 16 dX0_hasEdge_1 (by decide) (by omega) (fun c1 => ?_) (fun c1 => ?_))
  ·
    refine j_iconst hF dX0_hasEdge_16 (j_zret hF hR (Or.inl rfl) dX0_hasEdge_17 (by omega) (by omega) ?_)
    exact ⟨bz_r0 (by omega), rfl⟩
  ·
    refine j_iload_n hF dX0_hasEdge_4 rfl (j_aload_n hF dX0_hasEdge_5 rfl (j_get hF hM.1.1 fl_RX0_28 dX0_hasEdge_6 rfl (j_icmp_ge hF 16 dX0_hasEdge_9 (by decide) (by omega) (fun c9 => ?_) (fun c9 => ?_))))
    ·
      refine j_iconst hF dX0_hasEdge_16 (j_zret hF hR (Or.inl rfl) dX0_hasEdge_17 (by omega) (by omega) ?_)
      exact ⟨bz_r0 (by omega), rfl⟩
    ·
      refine j_iconst hF dX0_hasEdge_12 (j_goto hF 17 dX0_hasEdge_13 (by decide) (j_zret hF hR (Or.inr rfl) dX0_hasEdge_17 (by omega) (by omega) ?_))
      exact ⟨bz_r1 (by omega), rfl⟩

set_option maxRecDepth 100000 in
set_option maxHeartbeats 4000000 in
theorem c_X0_contains {X : Hp} {o e : Int} (ho : 0 ≤ o ∧ o < 1024) (he : 0 ≤ e ∧ e < 10) : Ct yX0_contains cX0_contains 2 (some .boolean) 0 0 [vi o, vi e] X 0 0 (fun rv X' => rv = some (vi (bz (hb o e))) ∧ X' = X) := by
  refine Ct.of (by decide +kernel) [some (vi o), some (vi e)] rfl (Nat.le_of_ble_eq_true rfl) (fun φ hF hR => ?_)
  obtain ⟨q1, q2, q3, q4⟩ := hb_sh ho.1 ho.2 he.1 he.2
  refine j_iload_n hF dX0_contains_0 rfl (j_iload_n hF dX0_contains_1 rfl (j_ishr hF (o / pw e) q1 dX0_contains_2 (j_iconst hF dX0_contains_3 (j_iand hF (o / pw e % 2) q2 dX0_contains_4 (j_iconst hF dX0_contains_5 ?_)))))
  refine j_icmp_ne hF 13 dX0_contains_6 (by decide) (by omega) (fun c6 => ?_) (fun c6 => ?_)
  ·
    refine j_iconst hF dX0_contains_13 (j_zret hF hR (Or.inl rfl) dX0_contains_14 (by omega) (by omega) ?_)
    exact ⟨bz_r0 (by unfold hb; omega), rfl⟩
  ·
    refine j_iconst hF dX0_contains_9 (j_goto hF 14 dX0_contains_10 (by decide) (j_zret hF hR (Or.inr rfl) dX0_contains_14 (by omega) (by omega) ?_))
    exact ⟨bz_r1 (by unfold hb; omega), rfl⟩

set_option maxRecDepth 100000 in
set_option maxHeartbeats 4000000 in
theorem c_X0_hasEdges {X : Hp} {b : Nat} {g d s e k : Nat} {nc ec : Int} {fd fs fe fk : Int → Int} (hM : GP X b g d s e k nc ec fd fs fe fk) {o : Int} (hn : 0 ≤ ec ∧ ec ≤ 10) (ho : -2147483648 ≤ o ∧ o ≤ 2147483647) : Ct yX0_hasEdges cX0_hasEdges 2 (some .boolean) 0 0 [.ref g, vi o] X 0 0 (fun rv X' => rv = some (vi (bz (0 ≤ o ∧ o ≤ pw ec - 1))) ∧ X' = X) := by
  refine Ct.of (by decide +kernel) [some (.ref g), some (vi o)] rfl (Nat.le_of_ble_eq_true rfl) (fun φ hF hR => ?_)
  have hM := hM.gg
  obtain ⟨z, z1, z2, z3⟩ := he_sh hn.1 hn.2 ho.1 ho.2
  refine j_iload_n hF dX0_hasEdges_0 rfl (j_aload_n hF dX0_hasEdges_1 rfl (j_get hF hM.1.1 fl_RX0_28 dX0_hasEdges_2 rfl (j_iushr hF (z) z1 dX0_hasEdges_5 (j_if_ne hF 13 dX0_hasEdges_6 (by decide) (by omega) (fun c6 => ?_) (fun c6 => ?_)))))
  ·
    refine j_iconst hF dX0_hasEdges_13 (j_zret hF hR (Or.inl rfl) dX0_hasEdges_14 (by omega) (by omega) ?_)
    exact ⟨bz_r0 (by omega), rfl⟩
  ·
    refine j_iconst hF dX0_hasEdges_9 (j_goto hF 14 dX0_hasEdges_10 (by decide) (j_zret hF hR (Or.inr rfl) dX0_hasEdges_14 (by omega) (by omega) ?_))
    exact ⟨bz_r1 (by omega), rfl⟩

set_option maxRecDepth 100000 in
set_option maxHeartbeats 4000000 in
theorem c_X0_kindBetween {X : Hp} {x y z : Int} (hx : -2147483648 ≤ x ∧ x ≤ 2147483647) (hy : -2147483648 ≤ y ∧ y ≤ 2147483647) (hz : 0 ≤ z ∧ z ≤ 1) : Ct yX0_kindBetween cX0_kindBetween 3 (some .int) 0 0 [vi x, vi y, vi z] X 0 0 (fun rv X' => rv = some (vi (if x = y then (if z = 0 then 0 else 3) else if x < y then 1 else 2)) ∧ X' = X) := by
  refine Ct.of (by decide +kernel) [some (vi x), some (vi y), some (vi z)] rfl (Nat.le_of_ble_eq_true rfl) (fun φ hF hR => ?_)
  refine j_iload_n hF dX0_kindBetween_0 rfl (j_iload_n hF dX0_kindBetween_1 rfl (j_icmp_eq hF 16 dX0_kindBetween_2 (by decide) (by omega) (fun c2 => ?_) (fun c2 => ?_)))
  ·
    refine j_iload_n hF dX0_kindBetween_16 rfl (j_if_eq hF 24 dX0_kindBetween_17 (by decide) (by omega) (fun c17 => ?_) (fun c17 => ?_))
    ·
      refine j_iconst hF dX0_kindBetween_24 (j_iret hF hR dX0_kindBetween_25 (by omega) (by omega) ?_)
      exact ⟨sv_eq (by (repeat' split) <;> omega), rfl⟩
    ·
      refine j_iconst hF dX0_kindBetween_20 (j_goto hF 25 dX0_kindBetween_21 (by decide) (j_iret hF hR dX0_kindBetween_25 (by omega) (by omega) ?_))
      exact ⟨sv_eq (by (repeat' split) <;> omega), rfl⟩
  ·
    refine j_iload_n hF dX0_kindBetween_5 rfl (j_iload_n hF dX0_kindBetween_6 rfl (j_icmp_ge hF 14 dX0_kindBetween_7 (by decide) (by omega) (fun c7 => ?_) (fun c7 => ?_)))
    ·
      refine j_iconst hF dX0_kindBetween_14 (j_iret hF hR dX0_kindBetween_15 (by omega) (by omega) ?_)
      exact ⟨sv_eq (by (repeat' split) <;> omega), rfl⟩
    ·
      refine j_iconst hF dX0_kindBetween_10 (j_goto hF 15 dX0_kindBetween_11 (by decide) (j_iret hF hR dX0_kindBetween_15 (by omega) (by omega) ?_))
      exact ⟨sv_eq (by (repeat' split) <;> omega), rfl⟩

set_option maxRecDepth 100000 in
set_option maxHeartbeats 4000000 in
theorem c_X0_startAllAt {X : Hp} {b : Nat} {g d s e k : Nat} {nc ec : Int} {fd fs fe fk : Int → Int} (hM : GP X b g d s e k nc ec fd fs fe fk) {o nd : Int} (hn : 0 ≤ ec ∧ ec ≤ 10) (ho : 0 ≤ o ∧ o < 1024) (hd : -2147483648 ≤ nd ∧ nd ≤ 2147483647) : Ct yX0_startAllAt cX0_startAllAt 4 (some .boolean) 1 21 [.ref g, vi o, vi nd] X 0 0 (fun rv X' => rv = some (vi (bz (BA (fun x => hb o x → fs x = nd) ec))) ∧ X' = X) := by
  refine Ct.of (by decide +kernel) [some (.ref g), some (vi o), some (vi nd), none] rfl (Nat.le_of_ble_eq_true rfl) (fun φ hF hR => ?_)
  have hM := hM.gg
  refine j_iconst hF dX0_startAllAt_0 (j_istore_n hF dX0_startAllAt_1 (Nat.le_of_ble_eq_true rfl) rfl ?_)
  have LL : ∀ (n : Nat) (i : Int), (ec - i).toNat < n → 0 ≤ i ∧ i ≤ ec → BA (fun x => hb o x → fs x = nd) i → Jd φ X 0 0 2 [some (.ref g), some (vi o), some (vi nd), some (vi i)] [] := by
    intro n
    induction n with
    | zero => intro i hfu; exact absurd hfu (by omega)
    | succ n ih =>
      intro i hfu hi hB
      refine j_iload_n hF dX0_startAllAt_2 rfl (j_aload_n hF dX0_startAllAt_3 rfl (j_get hF hM.1.1 fl_RX0_28 dX0_startAllAt_4 rfl (j_icmp_ge hF 36 dX0_startAllAt_7 (by decide) (by omega) (fun c7 => ?_) (fun c7 => ?_))))
      ·
        refine j_iconst hF dX0_startAllAt_36 (j_zret hF hR (Or.inr rfl) dX0_startAllAt_37 (by omega) (by omega) ?_)
        have ek : i = ec := by omega
        exact ⟨bz_r1 (ek ▸ hB), rfl⟩
      ·
        refine j_iload_n hF dX0_startAllAt_10 rfl (j_iload_n hF dX0_startAllAt_11 rfl (j_callS hF (c_X0_contains (by omega) (by omega)) ms_X0_contains mt_X0_contains lk_RX0_31 dX0_startAllAt_12 rfl rfl rfl (by simp [Value.category]) ⟨⟨(Nat.le_of_ble_eq_true rfl), (Nat.le_of_ble_eq_true rfl)⟩, by omega, by omega⟩ (fun v1 X1 hp1 hE1 => ?_)))
        obtain ⟨rfl, he1⟩ := hp1; obtain rfl := he1.symm
        refine j_b_eq hF 30 dX0_startAllAt_15 (by decide) (fun c15 => ?_) (fun c15 => ?_)
        ·
          refine j_iinc hF dX0_startAllAt_30 rfl (Nat.le_of_ble_eq_true rfl) rfl (j_goto hF 2 dX0_startAllAt_33 (by decide) ?_)
          first | exact ih (i + 1) (by omega) (by omega) (hB.s (fun _ => c25)) | exact ih (i + 1) (by omega) (by omega) (hB.s (fun g => absurd g c15))
        ·
          refine j_aload_n hF dX0_startAllAt_18 rfl (j_get hF hM.1.1 fl_RX0_15 dX0_startAllAt_19 rfl (j_iload_n hF dX0_startAllAt_22 rfl (j_iald hF hM.1.2.2.1 dX0_startAllAt_23 (by omega) (fun ra2 rb2 => ?_))))
          refine j_iload_n hF dX0_startAllAt_24 rfl (j_icmp_eq hF 30 dX0_startAllAt_25 (by decide) (by omega) (fun c25 => ?_) (fun c25 => ?_))
          ·
            refine j_iinc hF dX0_startAllAt_30 rfl (Nat.le_of_ble_eq_true rfl) rfl (j_goto hF 2 dX0_startAllAt_33 (by decide) ?_)
            first | exact ih (i + 1) (by omega) (by omega) (hB.s (fun _ => c25)) | exact ih (i + 1) (by omega) (by omega) (hB.s (fun g => absurd g c15))
          ·
            refine j_iconst hF dX0_startAllAt_28 (j_zret hF hR (Or.inl rfl) dX0_startAllAt_29 (by omega) (by omega) ?_)
            exact ⟨bz_r0 (fun g => c25 (g i hi.1 (by omega) c15)), rfl⟩
  exact LL (ec.toNat + 1) 0 (by omega) (by omega) (BA.z _)

set_option maxRecDepth 100000 in
set_option maxHeartbeats 4000000 in
theorem c_X0_hasLocation {X : Hp} {b : Nat} {g d s e k : Nat} {nc ec : Int} {fd fs fe fk : Int → Int} (hM : GP X b g d s e k nc ec fd fs fe fk) {x : Int} (hn : 0 ≤ nc ∧ nc ≤ 6) (hc : 0 ≤ ec ∧ ec ≤ 10) (hx : -2147483648 ≤ x ∧ x ≤ 2147483647) : Ct yX0_hasLocation cX0_hasLocation 2 (some .boolean) 1 21 [.ref g, vi x] X 0 0 (fun rv X' => rv = some (vi (bz ((0 ≤ x ∧ x ≤ nc - 1) ∨ (6 ≤ x ∧ x - 6 ≤ ec - 1)))) ∧ X' = X) := by
  refine Ct.of (by decide +kernel) [some (.ref g), some (vi x)] rfl (Nat.le_of_ble_eq_true rfl) (fun φ hF hR => ?_)
  have hM := hM.gg
  refine j_aload_n hF dX0_hasLocation_0 rfl (j_iload_n hF dX0_hasLocation_1 rfl (j_callV hF (c_X0_hasNode hM.1 hn (by omega)) ms_X0_hasNode mv_X0_hasNode lk_RX0_35 dX0_hasLocation_2 hM.1.1 rfl rfl rfl (by simp [Value.category]) ⟨⟨(Nat.le_of_ble_eq_true rfl), (Nat.le_of_ble_eq_true rfl)⟩, by omega, by omega⟩ (fun v1 X1 hp1 hE1 => ?_)))
  obtain ⟨rfl, he1⟩ := hp1; obtain rfl := he1.symm
  refine j_b_ne hF 25 dX0_hasLocation_5 (by decide) (fun c5 => ?_) (fun c5 => ?_)
  ·
    refine j_iconst hF dX0_hasLocation_25 (j_goto hF 30 dX0_hasLocation_26 (by decide) (j_zret hF hR (Or.inr rfl) dX0_hasLocation_30 (by omega) (by omega) ?_))
    exact ⟨bz_r1 (by omega), rfl⟩
  ·
    refine j_iload_n hF dX0_hasLocation_8 rfl (j_bipush hF dX0_hasLocation_9 (by decide) (j_icmp_lt hF 29 dX0_hasLocation_11 (by decide) (by omega) (fun c11 => ?_) (fun c11 => ?_)))
    ·
      refine j_iconst hF dX0_hasLocation_29 (j_zret hF hR (Or.inl rfl) dX0_hasLocation_30 (by omega) (by omega) ?_)
      exact ⟨bz_r0 (by omega), rfl⟩
    ·
      refine j_aload_n hF dX0_hasLocation_14 rfl (j_iload_n hF dX0_hasLocation_15 rfl (j_bipush hF dX0_hasLocation_16 (by decide) (j_isub hF dX0_hasLocation_18 (j_callV hF (c_X0_hasEdge hM.1 hc (by omega)) ms_X0_hasEdge mv_X0_hasEdge lk_RX0_39 dX0_hasLocation_19 hM.1.1 rfl rfl rfl (by simp [Value.category]) ⟨⟨(Nat.le_of_ble_eq_true rfl), (Nat.le_of_ble_eq_true rfl)⟩, by omega, by omega⟩ (fun v2 X2 hp2 hE2 => ?_)))))
      obtain ⟨rfl, he2⟩ := hp2; obtain rfl := he2.symm
      refine j_b_eq hF 29 dX0_hasLocation_22 (by decide) (fun c22 => ?_) (fun c22 => ?_)
      ·
        refine j_iconst hF dX0_hasLocation_29 (j_zret hF hR (Or.inl rfl) dX0_hasLocation_30 (by omega) (by omega) ?_)
        exact ⟨bz_r0 (by omega), rfl⟩
      ·
        refine j_iconst hF dX0_hasLocation_25 (j_goto hF 30 dX0_hasLocation_26 (by decide) (j_zret hF hR (Or.inr rfl) dX0_hasLocation_30 (by omega) (by omega) ?_))
        exact ⟨bz_r1 (by omega), rfl⟩

set_option maxRecDepth 100000 in
set_option maxHeartbeats 4000000 in
theorem c_X0_hasTime {X : Hp} {b : Nat} {g d s e k : Nat} {nc ec : Int} {fd fs fe fk : Int → Int} (hM : GP X b g d s e k nc ec fd fs fe fk) {x t : Int} (hn : 0 ≤ nc ∧ nc ≤ 6) (hc : 0 ≤ ec ∧ ec ≤ 10) (hx : -2147483648 ≤ x ∧ x ≤ 2147483647) (ht : -2147483648 ≤ t ∧ t ≤ 2147483647) (hd : ∀ j, 0 ≤ j → j < 6 → 0 ≤ fd j ∧ fd j ≤ 2) (hs : ∀ j, 0 ≤ j → j < ec → 0 ≤ fs j ∧ fs j < 6) : Ct yX0_hasTime cX0_hasTime 4 (some .boolean) 2 42 [.ref g, vi x, vi t] X 0 0 (fun rv X' => rv = some (vi (bz (c_time nc ec fd fs x t))) ∧ X' = X) := by
  refine Ct.of (by decide +kernel) [some (.ref g), some (vi x), some (vi t), none] rfl (Nat.le_of_ble_eq_true rfl) (fun φ hF hR => ?_)
  have hM := hM.gg
  refine j_aload_n hF dX0_hasTime_0 rfl (j_iload_n hF dX0_hasTime_1 rfl (j_callV hF (c_X0_hasLocation hM.1 hn hc (by omega)) ms_X0_hasLocation mv_X0_hasLocation lk_RX0_42 dX0_hasTime_2 hM.1.1 rfl rfl rfl (by simp [Value.category]) ⟨⟨(Nat.le_of_ble_eq_true rfl), (Nat.le_of_ble_eq_true rfl)⟩, by omega, by omega⟩ (fun v1 X1 hp1 hE1 => ?_)))
  obtain ⟨rfl, he1⟩ := hp1; obtain rfl := he1.symm
  refine j_b_eq hF 19 dX0_hasTime_5 (by decide) (fun c5 => ?_) (fun c5 => ?_)
  ·
    refine j_iconst hF dX0_hasTime_19 (j_zret hF hR (Or.inl rfl) dX0_hasTime_20 (by omega) (by omega) ?_)
    refine ⟨bz_r0 (fun g => ?_), rfl⟩
    unfold c_time c_dep at g
    first | (rw [if_pos c28] at g; omega) | (rw [if_neg (Int.not_lt.mpr c28)] at g; omega) | omega
  ·
    refine j_iload_n hF dX0_hasTime_8 rfl (j_if_lt hF 19 dX0_hasTime_9 (by decide) (by omega) (fun c9 => ?_) (fun c9 => ?_))
    ·
      refine j_iconst hF dX0_hasTime_19 (j_zret hF hR (Or.inl rfl) dX0_hasTime_20 (by omega) (by omega) ?_)
      refine ⟨bz_r0 (fun g => ?_), rfl⟩
      unfold c_time c_dep at g
      first | (rw [if_pos c28] at g; omega) | (rw [if_neg (Int.not_lt.mpr c28)] at g; omega) | omega
    ·
      refine j_iload_n hF dX0_hasTime_12 rfl (j_sipush hF dX0_hasTime_13 (by decide) (j_icmp_lt hF 21 dX0_hasTime_16 (by decide) (by omega) (fun c16 => ?_) (fun c16 => ?_)))
      ·
        refine j_aload_n hF dX0_hasTime_21 rfl (j_get hF hM.1.1 fl_RX0_9 dX0_hasTime_22 rfl (j_iload_n hF dX0_hasTime_25 rfl (j_bipush hF dX0_hasTime_26 (by decide) (j_icmp_ge hF 35 dX0_hasTime_28 (by decide) (by omega) (fun c28 => ?_) (fun c28 => ?_)))))
        ·
          have s0 := hs (x - 6) (by omega) (by omega)
          have d0 := hd (fs (x - 6)) s0.1 s0.2
          refine j_aload_n hF dX0_hasTime_35 rfl (j_get hF hM.1.1 fl_RX0_15 dX0_hasTime_36 rfl (j_iload_n hF dX0_hasTime_39 rfl (j_bipush hF dX0_hasTime_40 (by decide) (j_isub hF dX0_hasTime_42 (j_iald hF hM.1.2.2.1 dX0_hasTime_43 (by omega) (fun ra2 rb2 => ?_))))))
          refine j_iald hF hM.1.2.1 dX0_hasTime_44 (by omega) (fun ra3 rb3 => ?_)
          refine j_istore_n hF dX0_hasTime_45 (Nat.le_of_ble_eq_true rfl) rfl (j_iload_n hF dX0_hasTime_46 rfl (j_if_ne hF 63 dX0_hasTime_47 (by decide) (by omega) (fun c47 => ?_) (fun c47 => ?_)))
          ·
            refine j_iload_n hF dX0_hasTime_63 rfl (j_iconst hF dX0_hasTime_64 (j_icmp_eq hF 75 dX0_hasTime_65 (by decide) (by omega) (fun c65 => ?_) (fun c65 => ?_)))
            ·
              refine j_iconst hF dX0_hasTime_75 (j_goto hF 80 dX0_hasTime_76 (by decide) (j_zret hF hR (Or.inr rfl) dX0_hasTime_80 (by omega) (by omega) ?_))
              refine ⟨bz_r1 ?_, rfl⟩
              unfold c_time c_dep
              first | rw [if_pos c28] | rw [if_neg (Int.not_lt.mpr c28)]
              omega
            ·
              refine j_iload_n hF dX0_hasTime_68 rfl (j_bipush hF dX0_hasTime_69 (by decide) (j_irem hF dX0_hasTime_71 (by omega) (j_if_ne hF 79 dX0_hasTime_72 (by decide) (by omega) (fun c72 => ?_) (fun c72 => ?_))))
              ·
                refine j_iconst hF dX0_hasTime_79 (j_zret hF hR (Or.inl rfl) dX0_hasTime_80 (by omega) (by omega) ?_)
                refine ⟨bz_r0 (fun g => ?_), rfl⟩
                unfold c_time c_dep at g
                first | (rw [if_pos c28] at g; omega) | (rw [if_neg (Int.not_lt.mpr c28)] at g; omega) | omega
              ·
                refine j_iconst hF dX0_hasTime_75 (j_goto hF 80 dX0_hasTime_76 (by decide) (j_zret hF hR (Or.inr rfl) dX0_hasTime_80 (by omega) (by omega) ?_))
                refine ⟨bz_r1 ?_, rfl⟩
                unfold c_time c_dep
                first | rw [if_pos c28] | rw [if_neg (Int.not_lt.mpr c28)]
                omega
          ·
            refine j_iload_n hF dX0_hasTime_50 rfl (j_bipush hF dX0_hasTime_51 (by decide) (j_irem hF dX0_hasTime_53 (by omega) (j_if_ne hF 61 dX0_hasTime_54 (by decide) (by omega) (fun c54 => ?_) (fun c54 => ?_))))
            ·
              refine j_iconst hF dX0_hasTime_61 (j_zret hF hR (Or.inl rfl) dX0_hasTime_62 (by omega) (by omega) ?_)
              refine ⟨bz_r0 (fun g => ?_), rfl⟩
              unfold c_time c_dep at g
              first | (rw [if_pos c28] at g; omega) | (rw [if_neg (Int.not_lt.mpr c28)] at g; omega) | omega
            ·
              refine j_iconst hF dX0_hasTime_57 (j_goto hF 62 dX0_hasTime_58 (by decide) (j_zret hF hR (Or.inr rfl) dX0_hasTime_62 (by omega) (by omega) ?_))
              refine ⟨bz_r1 ?_, rfl⟩
              unfold c_time c_dep
              first | rw [if_pos c28] | rw [if_neg (Int.not_lt.mpr c28)]
              omega
        ·
          have d0 := hd x (by omega) (by omega)
          refine j_iload_n hF dX0_hasTime_31 rfl (j_goto hF 44 dX0_hasTime_32 (by decide) (j_iald hF hM.1.2.1 dX0_hasTime_44 (by omega) (fun ra4 rb4 => ?_)))
          refine j_istore_n hF dX0_hasTime_45 (Nat.le_of_ble_eq_true rfl) rfl (j_iload_n hF dX0_hasTime_46 rfl (j_if_ne hF 63 dX0_hasTime_47 (by decide) (by omega) (fun c47 => ?_) (fun c47 => ?_)))
          ·
            refine j_iload_n hF dX0_hasTime_63 rfl (j_iconst hF dX0_hasTime_64 (j_icmp_eq hF 75 dX0_hasTime_65 (by decide) (by omega) (fun c65 => ?_) (fun c65 => ?_)))
            ·
              refine j_iconst hF dX0_hasTime_75 (j_goto hF 80 dX0_hasTime_76 (by decide) (j_zret hF hR (Or.inr rfl) dX0_hasTime_80 (by omega) (by omega) ?_))
              refine ⟨bz_r1 ?_, rfl⟩
              unfold c_time c_dep
              first | rw [if_pos c28] | rw [if_neg (Int.not_lt.mpr c28)]
              omega
            ·
              refine j_iload_n hF dX0_hasTime_68 rfl (j_bipush hF dX0_hasTime_69 (by decide) (j_irem hF dX0_hasTime_71 (by omega) (j_if_ne hF 79 dX0_hasTime_72 (by decide) (by omega) (fun c72 => ?_) (fun c72 => ?_))))
              ·
                refine j_iconst hF dX0_hasTime_79 (j_zret hF hR (Or.inl rfl) dX0_hasTime_80 (by omega) (by omega) ?_)
                refine ⟨bz_r0 (fun g => ?_), rfl⟩
                unfold c_time c_dep at g
                first | (rw [if_pos c28] at g; omega) | (rw [if_neg (Int.not_lt.mpr c28)] at g; omega) | omega
              ·
                refine j_iconst hF dX0_hasTime_75 (j_goto hF 80 dX0_hasTime_76 (by decide) (j_zret hF hR (Or.inr rfl) dX0_hasTime_80 (by omega) (by omega) ?_))
                refine ⟨bz_r1 ?_, rfl⟩
                unfold c_time c_dep
                first | rw [if_pos c28] | rw [if_neg (Int.not_lt.mpr c28)]
                omega
          ·
            refine j_iload_n hF dX0_hasTime_50 rfl (j_bipush hF dX0_hasTime_51 (by decide) (j_irem hF dX0_hasTime_53 (by omega) (j_if_ne hF 61 dX0_hasTime_54 (by decide) (by omega) (fun c54 => ?_) (fun c54 => ?_))))
            ·
              refine j_iconst hF dX0_hasTime_61 (j_zret hF hR (Or.inl rfl) dX0_hasTime_62 (by omega) (by omega) ?_)
              refine ⟨bz_r0 (fun g => ?_), rfl⟩
              unfold c_time c_dep at g
              first | (rw [if_pos c28] at g; omega) | (rw [if_neg (Int.not_lt.mpr c28)] at g; omega) | omega
            ·
              refine j_iconst hF dX0_hasTime_57 (j_goto hF 62 dX0_hasTime_58 (by decide) (j_zret hF hR (Or.inr rfl) dX0_hasTime_62 (by omega) (by omega) ?_))
              refine ⟨bz_r1 ?_, rfl⟩
              unfold c_time c_dep
              first | rw [if_pos c28] | rw [if_neg (Int.not_lt.mpr c28)]
              omega
      ·
        refine j_iconst hF dX0_hasTime_19 (j_zret hF hR (Or.inl rfl) dX0_hasTime_20 (by omega) (by omega) ?_)
        refine ⟨bz_r0 (fun g => ?_), rfl⟩
        unfold c_time c_dep at g
        first | (rw [if_pos c28] at g; omega) | (rw [if_neg (Int.not_lt.mpr c28)] at g; omega) | omega

set_option maxRecDepth 100000 in
set_option maxHeartbeats 4000000 in
theorem c_X0_timeAfter {X : Hp} {b : Nat} {g d s e k : Nat} {nc ec : Int} {fd fs fe fk : Int → Int} (hM : GP X b g d s e k nc ec fd fs fe fk) {x t : Int} (hx : 0 ≤ x ∧ x < 10) (ht : 0 ≤ t ∧ t ≤ 999) (hs : 0 ≤ fs x ∧ fs x < 6) (hd : 0 ≤ fd (fs x) ∧ fd (fs x) ≤ 2) (hk : 0 ≤ fk x ∧ fk x ≤ 3) : Ct yX0_timeAfter cX0_timeAfter 6 (some .int) 0 0 [.ref g, vi x, vi t] X 0 0 (fun rv X' => rv = some (vi (c_after fd fs fk x t)) ∧ X' = X) := by
  refine Ct.of (by decide +kernel) [some (.ref g), some (vi x), some (vi t), none, none, none] rfl (Nat.le_of_ble_eq_true rfl) (fun φ hF hR => ?_)
  have hM := hM.gg
  refine j_aload_n hF dX0_timeAfter_0 rfl (j_get hF hM.1.1 fl_RX0_9 dX0_timeAfter_1 rfl (j_aload_n hF dX0_timeAfter_4 rfl (j_get hF hM.1.1 fl_RX0_15 dX0_timeAfter_5 rfl (j_iload_n hF dX0_timeAfter_8 rfl (j_iald hF hM.1.2.2.1 dX0_timeAfter_9 (by omega) (fun ra1 rb1 => ?_))))))
  refine j_iald hF hM.1.2.1 dX0_timeAfter_10 (by omega) (fun ra2 rb2 => ?_)
  refine j_iconst hF dX0_timeAfter_11 (j_icmp_ne hF 19 dX0_timeAfter_12 (by decide) (by omega) (fun c12 => ?_) (fun c12 => ?_))
  ·
    refine j_iconst hF dX0_timeAfter_19 (j_istore_n hF dX0_timeAfter_20 (Nat.le_of_ble_eq_true rfl) rfl (j_iload_n hF dX0_timeAfter_21 rfl (j_if_eq hF 29 dX0_timeAfter_22 (by decide) (by omega) (fun c22 => ?_) (fun c22 => absurd c22 (by omega)))))
    refine j_bipush hF dX0_timeAfter_29 (by decide) (j_istore hF dX0_timeAfter_31 (Nat.le_of_ble_eq_true rfl) rfl (j_iload_n hF dX0_timeAfter_33 rfl (j_iload hF dX0_timeAfter_34 rfl (j_idiv hF dX0_timeAfter_36 (by omega) (j_bipush hF dX0_timeAfter_37 (by decide) ?_)))))
    refine j_irem hF dX0_timeAfter_39 (by omega) (j_istore hF dX0_timeAfter_40 (Nat.le_of_ble_eq_true rfl) rfl (j_aload_n hF dX0_timeAfter_42 rfl (j_get hF hM.1.1 fl_RX0_21 dX0_timeAfter_43 rfl (j_iload_n hF dX0_timeAfter_46 rfl (j_iald hF hM.1.2.2.2.2 dX0_timeAfter_47 (by omega) (fun ra3 rb3 => ?_))))))
    refine j_iconst hF dX0_timeAfter_48 (j_icmp_ne hF 60 dX0_timeAfter_49 (by decide) (by omega) (fun c49 => ?_) (fun c49 => ?_))
    ·
      refine j_aload_n hF dX0_timeAfter_60 rfl (j_get hF hM.1.1 fl_RX0_21 dX0_timeAfter_61 rfl (j_iload_n hF dX0_timeAfter_64 rfl (j_iald hF hM.1.2.2.2.2 dX0_timeAfter_65 (by omega) (fun ra4 rb4 => ?_))))
      refine j_iconst hF dX0_timeAfter_66 (j_icmp_ne hF 86 dX0_timeAfter_67 (by decide) (by omega) (fun c67 => ?_) (fun c67 => ?_))
      ·
        refine j_iload_n hF dX0_timeAfter_86 rfl (j_iret hF hR dX0_timeAfter_87 (by omega) (by omega) ?_)
        exact ⟨sv_eq (by unfold c_after; (repeat' split) <;> omega), rfl⟩
      ·
        refine j_iload hF dX0_timeAfter_70 rfl (j_bipush hF dX0_timeAfter_72 (by decide) (j_icmp_ne hF 81 dX0_timeAfter_74 (by decide) (by omega) (fun c74 => ?_) (fun c74 => ?_)))
        ·
          refine j_iload_n hF dX0_timeAfter_81 rfl (j_iload hF dX0_timeAfter_82 rfl (j_iadd hF dX0_timeAfter_84 (j_iret hF hR dX0_timeAfter_85 (by omega) (by omega) ?_)))
          exact ⟨sv_eq (by unfold c_after; (repeat' split) <;> omega), rfl⟩
        ·
          refine j_iconst hF dX0_timeAfter_77 (j_goto hF 85 dX0_timeAfter_78 (by decide) (j_iret hF hR dX0_timeAfter_85 (by omega) (by omega) ?_))
          exact ⟨sv_eq (by unfold c_after; (repeat' split) <;> omega), rfl⟩
    ·
      refine j_iload_n hF dX0_timeAfter_52 rfl (j_iload hF dX0_timeAfter_53 rfl (j_iload hF dX0_timeAfter_55 rfl (j_imul hF dX0_timeAfter_57 (j_isub hF dX0_timeAfter_58 (j_iret hF hR dX0_timeAfter_59 (by omega) (by omega) ?_)))))
      exact ⟨sv_eq (by unfold c_after; (repeat' split) <;> omega), rfl⟩
  ·
    refine j_iconst hF dX0_timeAfter_15 (j_goto hF 20 dX0_timeAfter_16 (by decide) (j_istore_n hF dX0_timeAfter_20 (Nat.le_of_ble_eq_true rfl) rfl (j_iload_n hF dX0_timeAfter_21 rfl (j_if_eq hF 29 dX0_timeAfter_22 (by decide) (by omega) (fun c22 => absurd c22 (by omega)) (fun c22 => ?_)))))
    refine j_iconst hF dX0_timeAfter_25 (j_goto hF 31 dX0_timeAfter_26 (by decide) (j_istore hF dX0_timeAfter_31 (Nat.le_of_ble_eq_true rfl) rfl (j_iload_n hF dX0_timeAfter_33 rfl (j_iload hF dX0_timeAfter_34 rfl (j_idiv hF dX0_timeAfter_36 (by omega) ?_)))))
    refine j_bipush hF dX0_timeAfter_37 (by decide) (j_irem hF dX0_timeAfter_39 (by omega) (j_istore hF dX0_timeAfter_40 (Nat.le_of_ble_eq_true rfl) rfl (j_aload_n hF dX0_timeAfter_42 rfl (j_get hF hM.1.1 fl_RX0_21 dX0_timeAfter_43 rfl (j_iload_n hF dX0_timeAfter_46 rfl ?_)))))
    refine j_iald hF hM.1.2.2.2.2 dX0_timeAfter_47 (by omega) (fun ra5 rb5 => ?_)
    refine j_iconst hF dX0_timeAfter_48 (j_icmp_ne hF 60 dX0_timeAfter_49 (by decide) (by omega) (fun c49 => ?_) (fun c49 => ?_))
    ·
      refine j_aload_n hF dX0_timeAfter_60 rfl (j_get hF hM.1.1 fl_RX0_21 dX0_timeAfter_61 rfl (j_iload_n hF dX0_timeAfter_64 rfl (j_iald hF hM.1.2.2.2.2 dX0_timeAfter_65 (by omega) (fun ra6 rb6 => ?_))))
      refine j_iconst hF dX0_timeAfter_66 (j_icmp_ne hF 86 dX0_timeAfter_67 (by decide) (by omega) (fun c67 => ?_) (fun c67 => ?_))
      ·
        refine j_iload_n hF dX0_timeAfter_86 rfl (j_iret hF hR dX0_timeAfter_87 (by omega) (by omega) ?_)
        exact ⟨sv_eq (by unfold c_after; (repeat' split) <;> omega), rfl⟩
      ·
        refine j_iload hF dX0_timeAfter_70 rfl (j_bipush hF dX0_timeAfter_72 (by decide) (j_icmp_ne hF 81 dX0_timeAfter_74 (by decide) (by omega) (fun c74 => ?_) (fun c74 => ?_)))
        ·
          refine j_iload_n hF dX0_timeAfter_81 rfl (j_iload hF dX0_timeAfter_82 rfl (j_iadd hF dX0_timeAfter_84 (j_iret hF hR dX0_timeAfter_85 (by omega) (by omega) ?_)))
          exact ⟨sv_eq (by unfold c_after; (repeat' split) <;> omega), rfl⟩
        ·
          refine j_iconst hF dX0_timeAfter_77 (j_goto hF 85 dX0_timeAfter_78 (by decide) (j_iret hF hR dX0_timeAfter_85 (by omega) (by omega) ?_))
          exact ⟨sv_eq (by unfold c_after; (repeat' split) <;> omega), rfl⟩
    ·
      refine j_iload_n hF dX0_timeAfter_52 rfl (j_iload hF dX0_timeAfter_53 rfl (j_iload hF dX0_timeAfter_55 rfl (j_imul hF dX0_timeAfter_57 (j_isub hF dX0_timeAfter_58 (j_iret hF hR dX0_timeAfter_59 (by omega) (by omega) ?_)))))
      exact ⟨sv_eq (by unfold c_after; (repeat' split) <;> omega), rfl⟩

set_option maxRecDepth 100000 in
set_option maxHeartbeats 4000000 in
theorem c_X0_staysWithoutFeedback {X : Hp} {b : Nat} {g d s e k : Nat} {nc ec : Int} {fd fs fe fk : Int → Int} (hM : GP X b g d s e k nc ec fd fs fe fk) {x y : Int} (hx : 0 ≤ x ∧ x < 11) (hy : -2147483648 ≤ y ∧ y ≤ 2147483647) (he : 0 ≤ fe x ∧ fe x < 6) : Ct yX0_staysWithoutFeedback cX0_staysWithoutFeedback 4 (some .boolean) 0 0 [.ref g, vi x, vi y] X 0 0 (fun rv X' => rv = some (vi (bz (y ≤ fd (fe x) ∧ ¬ (fk x = 3 ∧ fd (fe x) = y)))) ∧ X' = X) := by
  refine Ct.of (by decide +kernel) [some (.ref g), some (vi x), some (vi y), none] rfl (Nat.le_of_ble_eq_true rfl) (fun φ hF hR => ?_)
  have hM := hM.gg
  refine j_aload_n hF dX0_staysWithoutFeedback_0 rfl (j_get hF hM.1.1 fl_RX0_9 dX0_staysWithoutFeedback_1 rfl (j_aload_n hF dX0_staysWithoutFeedback_4 rfl (j_get hF hM.1.1 fl_RX0_18 dX0_staysWithoutFeedback_5 rfl (j_iload_n hF dX0_staysWithoutFeedback_8 rfl (j_iald hF hM.1.2.2.2.1 dX0_staysWithoutFeedback_9 (by omega) (fun ra1 rb1 => ?_))))))
  refine j_iald hF hM.1.2.1 dX0_staysWithoutFeedback_10 (by omega) (fun ra2 rb2 => ?_)
  refine j_istore_n hF dX0_staysWithoutFeedback_11 (Nat.le_of_ble_eq_true rfl) rfl (j_iload_n hF dX0_staysWithoutFeedback_12 rfl (j_iload_n hF dX0_staysWithoutFeedback_13 rfl (j_icmp_lt hF 36 dX0_staysWithoutFeedback_14 (by decide) (by omega) (fun c14 => ?_) (fun c14 => ?_))))
  ·
    refine j_iconst hF dX0_staysWithoutFeedback_36 (j_zret hF hR (Or.inl rfl) dX0_staysWithoutFeedback_37 (by omega) (by omega) ?_)
    exact ⟨bz_r0 (by omega), rfl⟩
  ·
    refine j_aload_n hF dX0_staysWithoutFeedback_17 rfl (j_get hF hM.1.1 fl_RX0_21 dX0_staysWithoutFeedback_18 rfl (j_iload_n hF dX0_staysWithoutFeedback_21 rfl (j_iald hF hM.1.2.2.2.2 dX0_staysWithoutFeedback_22 (by omega) (fun ra3 rb3 => ?_))))
    refine j_iconst hF dX0_staysWithoutFeedback_23 (j_icmp_ne hF 32 dX0_staysWithoutFeedback_24 (by decide) (by omega) (fun c24 => ?_) (fun c24 => ?_))
    ·
      refine j_iconst hF dX0_staysWithoutFeedback_32 (j_goto hF 37 dX0_staysWithoutFeedback_33 (by decide) (j_zret hF hR (Or.inr rfl) dX0_staysWithoutFeedback_37 (by omega) (by omega) ?_))
      exact ⟨bz_r1 (by omega), rfl⟩
    ·
      refine j_iload_n hF dX0_staysWithoutFeedback_27 rfl (j_iload_n hF dX0_staysWithoutFeedback_28 rfl (j_icmp_eq hF 36 dX0_staysWithoutFeedback_29 (by decide) (by omega) (fun c29 => ?_) (fun c29 => ?_)))
      ·
        refine j_iconst hF dX0_staysWithoutFeedback_36 (j_zret hF hR (Or.inl rfl) dX0_staysWithoutFeedback_37 (by omega) (by omega) ?_)
        exact ⟨bz_r0 (by omega), rfl⟩
      ·
        refine j_iconst hF dX0_staysWithoutFeedback_32 (j_goto hF 37 dX0_staysWithoutFeedback_33 (by decide) (j_zret hF hR (Or.inr rfl) dX0_staysWithoutFeedback_37 (by omega) (by omega) ?_))
        exact ⟨bz_r1 (by omega), rfl⟩

set_option maxRecDepth 100000 in
set_option maxHeartbeats 4000000 in
theorem c_X0_appendNode {X : Hp} {b : Nat} {g d s e k : Nat} {nc ec : Int} {fd fs fe fk : Int → Int} (hM : GP X b g d s e k nc ec fd fs fe fk) {x : Int} (hn : 0 ≤ nc ∧ nc < 6) (hx : 0 ≤ x ∧ x ≤ 2) : Ct yX0_appendNode cX0_appendNode 2 (some .int) 0 0 [.ref g, vi x] X 0 0 (fun rv X' => rv = some (vi nc) ∧ GPG X X' b g d s e k (nc + 1) ec (fu fd nc x) fs fe fk) := by
  refine Ct.of (by decide +kernel) [some (.ref g), some (vi x)] rfl (Nat.le_of_ble_eq_true rfl) (fun φ hF hR => ?_)
  have hM := hM.gg
  refine j_aload_n hF dX0_appendNode_0 rfl (j_get hF hM.1.1 fl_RX0_9 dX0_appendNode_1 rfl (j_aload_n hF dX0_appendNode_4 rfl (j_get hF hM.1.1 fl_RX0_24 dX0_appendNode_5 rfl (j_iload_n hF dX0_appendNode_8 rfl (j_iast hF hM.1.2.1 dX0_appendNode_9 (by omega) (by omega) (j_nm (fun X1 eX1 => ?_)))))))
  have hM := hM.u_fd eX1
  refine j_aload_n hF dX0_appendNode_10 rfl (j_dup hF dX0_appendNode_11 rfl (j_get hF hM.1.1 fl_RX0_24 dX0_appendNode_12 rfl (j_iconst hF dX0_appendNode_15 (j_iadd hF dX0_appendNode_16 (j_put hF hM.1.1 fl_RX0_24 dX0_appendNode_17 rfl rfl (Nat.le_of_ble_eq_true rfl) (j_nm (fun X2 eX2 => ?_)))))))
  have hM := hM.u_nc eX2
  refine j_aload_n hF dX0_appendNode_20 rfl (j_get hF hM.1.1 fl_RX0_24 dX0_appendNode_21 rfl (j_iconst hF dX0_appendNode_24 (j_isub hF dX0_appendNode_25 (j_iret hF hR dX0_appendNode_26 (by omega) (by omega) ?_))))
  rw [show nc + 1 - 1 = nc by omega]
  exact ⟨rfl, hM⟩

set_option maxRecDepth 100000 in
set_option maxHeartbeats 4000000 in
theorem c_X0_putEdge {X : Hp} {b : Nat} {g d s e k : Nat} {nc ec : Int} {fd fs fe fk : Int → Int} (hM : GP X b g d s e k nc ec fd fs fe fk) {x y z : Int} (hc : 0 ≤ ec ∧ ec ≤ 10) (hx : 0 ≤ x ∧ x < 6) (hy : 0 ≤ y ∧ y < 6) (hz : 0 ≤ z ∧ z ≤ 1) : Ct yX0_putEdge cX0_putEdge 4 none 1 22 [.ref g, vi x, vi y, vi z] X 0 0 (fun rv X' => rv = none ∧ GPG X X' b g d s e k nc ec fd (fu fs ec x) (fu fe ec y) (fu fk ec (if fd x = fd y then (if z = 0 then 0 else 3) else if fd x < fd y then 1 else 2))) := by
  refine Ct.of (by decide +kernel) [some (.ref g), some (vi x), some (vi y), some (vi z)] rfl (Nat.le_of_ble_eq_true rfl) (fun φ hF hR => ?_)
  have hM := hM.gg
  refine j_aload_n hF dX0_putEdge_0 rfl (j_get hF hM.1.1 fl_RX0_15 dX0_putEdge_1 rfl (j_aload_n hF dX0_putEdge_4 rfl (j_get hF hM.1.1 fl_RX0_28 dX0_putEdge_5 rfl (j_iload_n hF dX0_putEdge_8 rfl (j_iast hF hM.1.2.2.1 dX0_putEdge_9 (by omega) (by omega) (j_nm (fun X1 eX1 => ?_)))))))
  have hM := hM.u_fs eX1
  refine j_aload_n hF dX0_putEdge_10 rfl (j_get hF hM.1.1 fl_RX0_18 dX0_putEdge_11 rfl (j_aload_n hF dX0_putEdge_14 rfl (j_get hF hM.1.1 fl_RX0_28 dX0_putEdge_15 rfl (j_iload_n hF dX0_putEdge_18 rfl (j_iast hF hM.1.2.2.2.1 dX0_putEdge_19 (by omega) (by omega) (j_nm (fun X2 eX2 => ?_)))))))
  have hM := hM.u_fe eX2
  refine j_aload_n hF dX0_putEdge_20 rfl (j_get hF hM.1.1 fl_RX0_21 dX0_putEdge_21 rfl (j_aload_n hF dX0_putEdge_24 rfl (j_get hF hM.1.1 fl_RX0_28 dX0_putEdge_25 rfl (j_aload_n hF dX0_putEdge_28 rfl (j_get hF hM.1.1 fl_RX0_9 dX0_putEdge_29 rfl ?_)))))
  refine j_iload_n hF dX0_putEdge_32 rfl (j_iald hF hM.1.2.1 dX0_putEdge_33 (by omega) (fun ra3 rb3 => ?_))
  refine j_aload_n hF dX0_putEdge_34 rfl (j_get hF hM.1.1 fl_RX0_9 dX0_putEdge_35 rfl (j_iload_n hF dX0_putEdge_38 rfl (j_iald hF hM.1.2.1 dX0_putEdge_39 (by omega) (fun ra4 rb4 => ?_))))
  refine j_iload_n hF dX0_putEdge_40 rfl (j_callS hF (c_X0_kindBetween (by omega) (by omega) (by omega)) ms_X0_kindBetween mt_X0_kindBetween lk_RX0_52 dX0_putEdge_41 rfl rfl rfl (by simp [Value.category]) ⟨⟨(Nat.le_of_ble_eq_true rfl), (Nat.le_of_ble_eq_true rfl)⟩, by omega, by omega⟩ (fun v5 X5 hp5 hE5 => ?_))
  obtain ⟨rfl, he5⟩ := hp5; obtain rfl := he5.symm
  refine j_iast hF hM.1.2.2.2.2 dX0_putEdge_44 (by omega) (by skip; (repeat' split) <;> omega) (j_nm (fun X6 eX6 => ?_))
  have hM := hM.u_fk eX6
  refine j_vret hF hR dX0_putEdge_45 (by omega) (by omega) ?_
  exact ⟨rfl, hM⟩

set_option maxRecDepth 100000 in
set_option maxHeartbeats 4000000 in
theorem c_X0_appendEdge {X : Hp} {b : Nat} {g d s e k : Nat} {nc ec : Int} {fd fs fe fk : Int → Int} (hM : GP X b g d s e k nc ec fd fs fe fk) {x y z : Int} (hc : 0 ≤ ec ∧ ec < 10) (hx : 0 ≤ x ∧ x < 6) (hy : 0 ≤ y ∧ y < 6) (hz : 0 ≤ z ∧ z ≤ 1) : Ct yX0_appendEdge cX0_appendEdge 4 (some .int) 2 45 [.ref g, vi x, vi y, vi z] X 0 0 (fun rv X' => rv = some (vi ec) ∧ GPG X X' b g d s e k nc (ec + 1) fd (fu fs ec x) (fu fe ec y) (fu fk ec (if fd x = fd y then (if z = 0 then 0 else 3) else if fd x < fd y then 1 else 2))) := by
  refine Ct.of (by decide +kernel) [some (.ref g), some (vi x), some (vi y), some (vi z)] rfl (Nat.le_of_ble_eq_true rfl) (fun φ hF hR => ?_)
  have hM := hM.gg
  refine j_aload_n hF dX0_appendEdge_0 rfl (j_iload_n hF dX0_appendEdge_1 rfl (j_iload_n hF dX0_appendEdge_2 rfl (j_iload_n hF dX0_appendEdge_3 rfl (j_callV hF (c_X0_putEdge hM.1 (by omega) (by omega) (by omega) (by omega)) ms_X0_putEdge mv_X0_putEdge lk_RX0_45 dX0_appendEdge_4 hM.1.1 rfl rfl rfl (by simp [Value.category]) ⟨⟨(Nat.le_of_ble_eq_true rfl), (Nat.le_of_ble_eq_true rfl)⟩, by omega, by omega⟩ (fun v1 X1 hp1 hE1 => ?_)))))
  obtain ⟨rfl, hM1⟩ := hp1
  have hM := hM.tr hM1
  refine j_aload_n hF dX0_appendEdge_7 rfl (j_dup hF dX0_appendEdge_8 rfl (j_get hF hM.1.1 fl_RX0_28 dX0_appendEdge_9 rfl (j_iconst hF dX0_appendEdge_12 (j_iadd hF dX0_appendEdge_13 (j_put hF hM.1.1 fl_RX0_28 dX0_appendEdge_14 rfl rfl (Nat.le_of_ble_eq_true rfl) (j_nm (fun X2 eX2 => ?_)))))))
  have hM := hM.u_ec eX2
  refine j_aload_n hF dX0_appendEdge_17 rfl (j_get hF hM.1.1 fl_RX0_28 dX0_appendEdge_18 rfl (j_iconst hF dX0_appendEdge_21 (j_isub hF dX0_appendEdge_22 (j_iret hF hR dX0_appendEdge_23 (by omega) (by omega) ?_))))
  rw [show ec + 1 - 1 = ec by omega]
  exact ⟨rfl, hM⟩
